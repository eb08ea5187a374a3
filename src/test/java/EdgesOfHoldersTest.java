/** Promises 12 and 13, each sentence that names a boundary: the last that is allowed, the first that isn't. */
public final class EdgesOfHoldersTest {
    private static final int LEAST_INT = Integer.MIN_VALUE;
    private static final int MOST_INT = Integer.MAX_VALUE;
    private static final Expect EXPECT = new Expect();

    public static void main(String[] args) {
        sellNoSuchDeposit();
        sellToNoSuchHolder();
        sellFromTheMonthOn();
        sellInPlaceOfWhoCameInThisMonth();
        sellWhatIsPaidOut();
        sellWhatIsPaidInPart();
        sellToWhoHasIt();
        sellToWhoHadIt();
        soldInSixMonths();
        soldInTheSixthMonthAgain();
        soldInTheMonthItWasMadeIsNotCounted();
        soldOftenInTheMonthItWasMade();
        soldBackInTheSameMonthIsCounted();
        soldOfEachDepositAlone();
        sellFindingsInOrder();
        soldInTheLastMonth();
        holderOfNoSuchDeposit();
        holderInNoMonth();
        holderBeforeItWasMade();
        holderOfADepositOfMonth0();
        holderBeyondAheadOfNone();
        holderOfSevenRows();
        EXPECT.end();
    }

    /** Two deposits made in a month, held by 3 and 4. */
    private static Twins madeIn(String sentence, int month) {
        Twins t = new Twins(EXPECT, sentence);
        t.given(x -> x.child(0));
        if (month > 0) {
            t.given(x -> x.months(month));
        }
        t.given(x -> x.deposit(0, 0, 0, 100, 3), x -> x.deposit(2, 0, 0, 200, 4));
        return t;
    }

    /** Sold in so many months, one after the other, to 0 and 1 in turn. */
    private static void sellInMonths(Twins t, int months) {
        for (int i = 0; i < months; i++) {
            int holder = i % 2;
            t.given(x -> x.months(1), x -> x.sell(0, holder));
        }
    }

    private static void sellNoSuchDeposit() {
        Twins t = madeIn("12: there is no such deposit", 0);
        t.refuses(Expect.BEYOND, x -> x.sell(-1, 5), x -> x.sell(2, 5), x -> x.sell(LEAST_INT, 5),
            x -> x.sell(MOST_INT, 5));
        t.answers(3, x -> x.sell(0, 5));
        t.answers(4, x -> x.sell(1, 5));
        t.stayAlike();
    }

    private static void sellToNoSuchHolder() {
        Twins t = madeIn("12: there is no such holder", 0);
        t.refuses(Expect.BEYOND, x -> x.sell(0, -1), x -> x.sell(0, 10), x -> x.sell(0, LEAST_INT),
            x -> x.sell(0, MOST_INT));
        t.answers(3, x -> x.holder(0, 0));
        t.answers(3, x -> x.sell(0, 0));
        t.answers(0, x -> x.sell(0, 9));
        t.answers(9, x -> x.holder(0, 0));
        t.stayAlike();
    }

    private static void sellFromTheMonthOn() {
        Twins t = madeIn("12: from THE MONTH on", 2);
        t.given(x -> x.months(10));
        t.answers(3, x -> x.sell(0, 8));
        t.answers(3, x -> x.holder(0, 11));
        t.answers(8, x -> x.holder(0, 12));
        t.answers(8, x -> x.holder(0, 1199));
        t.answers(4, x -> x.holder(1, 12));
        t.stayAlike();
    }

    private static void sellInPlaceOfWhoCameInThisMonth() {
        Twins t = madeIn("12: in place of who came to it in this month", 2);
        t.given(x -> x.months(1));
        t.answers(3, x -> x.sell(0, 8));
        t.answers(8, x -> x.sell(0, 6));
        t.answers(6, x -> x.holder(0, 3));
        t.answers(3, x -> x.holder(0, 2));
        t.given(x -> x.months(1));
        t.answers(6, x -> x.sell(0, 7));
        t.answers(6, x -> x.holder(0, 3));
        t.answers(7, x -> x.holder(0, 4));
        t.stayAlike();
    }

    private static void sellWhatIsPaidOut() {
        Twins t = madeIn("12: STATE: it is PAID OUT", 0);
        t.given(x -> x.fate(0, 2, 0), x -> x.income(150));
        t.answers(3, x -> x.sell(0, 5));
        t.given(x -> x.months(1));
        t.answers(1, x -> x.about(0, 8));
        t.refuses(Expect.STATE, x -> x.sell(0, 6), x -> x.sell(1, 6));
        t.answers(5, x -> x.holder(0, 1));
        t.stayAlike();
    }

    private static void sellWhatIsPaidInPart() {
        Twins t = madeIn("12: STATE: not by a part that was paid", 0);
        t.given(x -> x.fate(0, 2, 0), x -> x.income(149), x -> x.months(1));
        t.answers(1, x -> x.about(0, 8));
        t.answers(99, x -> x.about(1, 7));
        t.refuses(Expect.STATE, x -> x.sell(0, 6));
        t.answers(4, x -> x.sell(1, 6));
        t.given(x -> x.income(1), x -> x.months(1));
        t.refuses(Expect.STATE, x -> x.sell(1, 7));
        t.answers(1, x -> x.paid(6));
        t.stayAlike();
    }

    private static void sellToWhoHasIt() {
        Twins t = madeIn("12: KIND: that one has it", 0);
        t.refuses(Expect.KIND, x -> x.sell(0, 3), x -> x.sell(1, 4));
        t.given(x -> x.months(1));
        t.refuses(Expect.KIND, x -> x.sell(0, 3));
        t.answers(3, x -> x.sell(0, 4));
        t.refuses(Expect.KIND, x -> x.sell(0, 4));
        t.given(x -> x.months(1));
        t.refuses(Expect.KIND, x -> x.sell(0, 4));
        t.stayAlike();
    }

    private static void sellToWhoHadIt() {
        Twins t = madeIn("12: who had it may have it again", 0);
        t.answers(3, x -> x.sell(0, 4));
        t.answers(4, x -> x.sell(0, 3));
        t.given(x -> x.months(1));
        t.answers(3, x -> x.sell(0, 5));
        t.answers(5, x -> x.sell(0, 3));
        t.answers(3, x -> x.holder(0, 1));
        t.stayAlike();
    }

    private static void soldInSixMonths() {
        Twins t = madeIn("12: FULL: it was sold in 6 months already", 4);
        sellInMonths(t, 5);
        t.given(x -> x.months(1));
        t.answers(0, x -> x.sell(0, 7));
        t.given(x -> x.months(1));
        t.refuses(Expect.FULL, x -> x.sell(0, 8), x -> x.sell(0, 3), x -> x.sell(0, 0));
        t.answers(7, x -> x.holder(0, 11));
        t.given(x -> x.months(240));
        t.refuses(Expect.FULL, x -> x.sell(0, 8));
        t.answers(7, x -> x.holder(0, 1199));
        t.stayAlike();
    }

    private static void soldInTheSixthMonthAgain() {
        Twins t = madeIn("12: FULL: not if it was sold in this one", 4);
        sellInMonths(t, 6);
        t.answers(1, x -> x.sell(0, 7));
        t.answers(7, x -> x.sell(0, 8));
        t.answers(8, x -> x.sell(0, 1));
        t.answers(1, x -> x.holder(0, 10));
        t.answers(0, x -> x.holder(0, 9));
        t.given(x -> x.months(1));
        t.refuses(Expect.FULL, x -> x.sell(0, 7));
        t.stayAlike();
    }

    private static void soldInTheMonthItWasMadeIsNotCounted() {
        Twins t = madeIn("12: FULL: that in which it was made isn't counted", 4);
        t.answers(3, x -> x.sell(0, 9));
        sellInMonths(t, 5);
        t.given(x -> x.months(1));
        t.answers(0, x -> x.sell(0, 7));
        t.given(x -> x.months(1));
        t.refuses(Expect.FULL, x -> x.sell(0, 8));
        t.answers(9, x -> x.holder(0, 4));
        t.stayAlike();
    }

    private static void soldOftenInTheMonthItWasMade() {
        Twins t = madeIn("12: FULL: not if it was made in this one", 4);
        for (int i = 0; i < 20; i++) {
            int nth = i;
            t.answers(nth == 0 ? 3 : 5 + (nth - 1) % 2, x -> x.sell(0, 5 + nth % 2));
        }
        t.answers(6, x -> x.holder(0, 4));
        t.refuses(Expect.NONE, x -> x.holder(0, 3));
        sellInMonths(t, 6);
        t.answers(1, x -> x.holder(0, 10));
        t.given(x -> x.months(1));
        t.refuses(Expect.FULL, x -> x.sell(0, 5));
        t.stayAlike();
    }

    private static void soldBackInTheSameMonthIsCounted() {
        Twins t = madeIn("12: FULL: a month in which it was sold, and back", 0);
        for (int i = 0; i < 6; i++) {
            t.given(x -> x.months(1), x -> x.sell(0, 8), x -> x.sell(0, 3));
        }
        t.given(x -> x.months(1));
        t.answers(3, x -> x.holder(0, 7));
        t.refuses(Expect.KIND, x -> x.sell(0, 3));
        t.refuses(Expect.FULL, x -> x.sell(0, 8));
        t.stayAlike();
    }

    private static void soldOfEachDepositAlone() {
        Twins t = madeIn("12: FULL: of this deposit alone", 0);
        sellInMonths(t, 6);
        t.given(x -> x.months(1));
        t.refuses(Expect.FULL, x -> x.sell(0, 8));
        t.answers(4, x -> x.sell(1, 8));
        t.stayAlike();
    }

    private static void sellFindingsInOrder() {
        Twins t = madeIn("12: BEYOND, STATE, KIND, FULL in this order", 0);
        sellInMonths(t, 6);
        t.given(x -> x.months(1));
        t.refuses(Expect.BEYOND, x -> x.sell(2, 1), x -> x.sell(0, 10));
        t.refuses(Expect.KIND, x -> x.sell(0, 1));
        t.refuses(Expect.FULL, x -> x.sell(0, 0));
        t.given(x -> x.fate(0, 2, 0), x -> x.income(1000), x -> x.months(1));
        t.refuses(Expect.BEYOND, x -> x.sell(0, -1), x -> x.sell(0, 10));
        t.refuses(Expect.STATE, x -> x.sell(0, 1), x -> x.sell(0, 0));
        t.stayAlike();
    }

    private static void soldInTheLastMonth() {
        Twins t = madeIn("12: from the last month on", 0);
        t.given(x -> x.months(240), x -> x.months(240), x -> x.months(240), x -> x.months(240), x -> x.months(239));
        t.answers(3, x -> x.sell(0, 8));
        t.answers(3, x -> x.holder(0, 1198));
        t.answers(8, x -> x.holder(0, 1199));
        t.stayAlike();
    }

    private static void holderOfNoSuchDeposit() {
        Twins t = madeIn("13: there is no such deposit", 0);
        t.refuses(Expect.BEYOND, x -> x.holder(-1, 0), x -> x.holder(2, 0), x -> x.holder(LEAST_INT, 0),
            x -> x.holder(MOST_INT, 0));
        t.answers(3, x -> x.holder(0, 0));
        t.answers(4, x -> x.holder(1, 0));
        t.stayAlike();
    }

    private static void holderInNoMonth() {
        Twins t = madeIn("13: it is no month", 0);
        t.refuses(Expect.BEYOND, x -> x.holder(0, -1), x -> x.holder(0, 1200), x -> x.holder(0, LEAST_INT),
            x -> x.holder(0, MOST_INT));
        t.answers(3, x -> x.holder(0, 0));
        t.answers(3, x -> x.holder(0, 1199));
        t.stayAlike();
    }

    private static void holderBeforeItWasMade() {
        Twins t = madeIn("13: NONE: it wasn't made yet", 6);
        t.refuses(Expect.NONE, x -> x.holder(0, 5), x -> x.holder(0, 0), x -> x.holder(1, 5));
        t.answers(3, x -> x.holder(0, 6));
        t.answers(3, x -> x.holder(0, 7));
        t.stayAlike();
    }

    private static void holderOfADepositOfMonth0() {
        Twins t = madeIn("13: made in month 0", 0);
        t.answers(3, x -> x.holder(0, 0));
        t.refuses(Expect.BEYOND, x -> x.holder(0, -1));
        t.stayAlike();
    }

    private static void holderBeyondAheadOfNone() {
        Twins t = madeIn("13: BEYOND ahead of NONE", 6);
        t.refuses(Expect.BEYOND, x -> x.holder(0, -1), x -> x.holder(2, 5));
        t.refuses(Expect.NONE, x -> x.holder(0, 5));
        t.stayAlike();
    }

    private static void holderOfSevenRows() {
        Twins t = madeIn("13: its HOLDER in each of the months", 10);
        for (int i = 1; i <= 6; i++) {
            int holder = 3 + i;
            t.given(x -> x.months(2), x -> x.sell(0, holder));
        }
        for (int i = 0; i <= 6; i++) {
            int nth = i;
            t.answers(3 + nth, x -> x.holder(0, 10 + 2 * nth));
            t.answers(3 + nth, x -> x.holder(0, 11 + 2 * nth));
        }
        t.stayAlike();
    }
}
