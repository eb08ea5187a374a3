/** Promises 16 to 18 and the rolls of promise 2, each sentence that names a boundary. */
public final class EdgesOfPurseTest {
    private static final int LEAST_INT = Integer.MIN_VALUE;
    private static final int MOST_INT = Integer.MAX_VALUE;
    private static final Expect EXPECT = new Expect();

    public static void main(String[] args) {
        incomeFrom0To1000000();
        incomeIsRefusedAbove1000000000();
        incomeBeyondAheadOfFull();
        purseOfAnotherWhat();
        purseBeforeAnyRoll();
        paidToNoSuchHolder();
        rollOfTheMonthItIsDue();
        rollOfADueMonthLongAgo();
        rollOfMonth0();
        rollOfTheLastMonthThatGoes();
        rollWithNobodyOnIt();
        rollOfThirty();
        purseHasJustAll();
        purseHasOneLess();
        purseHasNothing();
        purseHasOne();
        leftOverTheLeastFirst();
        leftOverNotToOneOwedNothing();
        leftOverPaysTheLastOfIt();
        sharesDontWrapAround();
        owedLessWhatItWasPaid();
        owedNothingAtLeast();
        owedNothingIsPaidOut();
        paidOutStaysSo();
        paidToTheHolderOfTheMonth();
        paidToAllTenHolders();
        eachOfSeveralMonthsHasItsRoll();
        owedByPartsOverYears();
        EXPECT.end();
    }

    private static Twins twins(String sentence) {
        return new Twins(EXPECT, sentence);
    }

    /** A child who dies in a month; deposits of these sums, which come back whole, by holders 0, 1, .. */
    private static Twins withSums(String sentence, int month, int... sums) {
        Twins t = twins(sentence);
        t.given(x -> x.child(0), x -> x.decree(1, 0, 1000));
        for (int i = 0; i < sums.length; i++) {
            int nth = i;
            t.given(x -> x.deposit(0, 0, 0, sums[nth], nth % 10));
        }
        t.given(x -> x.fate(0, 2, month));
        return t;
    }

    /** What the purse has, all that was paid, owed still, on the roll, paid out. */
    private static void purseIs(Twins t, long has, long spent, long owed, long roll, long out) {
        t.answers(has, x -> x.purse(0));
        t.answers(has + spent, x -> x.purse(1));
        t.answers(spent, x -> x.purse(2));
        t.answers(owed, x -> x.purse(3));
        t.answers(roll, x -> x.purse(4));
        t.answers(out, x -> x.purse(5));
    }

    private static void depositIs(Twins t, int deposit, long received, long out) {
        t.answers(received, x -> x.about(deposit, 7));
        t.answers(out, x -> x.about(deposit, 8));
    }

    private static void incomeFrom0To1000000() {
        Twins t = twins("16: v is 0 .. 1000000");
        t.refuses(Expect.BEYOND, x -> x.income(-1), x -> x.income(1000001), x -> x.income(LEAST_INT),
            x -> x.income(MOST_INT));
        t.answers(0, x -> x.income(0));
        t.answers(1000000, x -> x.income(1000000));
        t.answers(1000000, x -> x.income(0));
        t.refuses(Expect.BEYOND, x -> x.income(-1), x -> x.income(1000001));
        purseIs(t, 1000000, 0, 0, 0, 0);
        t.stayAlike();
    }

    /** It takes a thousand calls: more than the document promises for, but the words hold. */
    private static void incomeIsRefusedAbove1000000000() {
        Twins t = twins("16: FULL: it would be above 1000000000");
        for (int i = 0; i < 999; i++) {
            t.given(x -> x.income(1000000));
        }
        t.answers(999000001, x -> x.income(1));
        t.refuses(Expect.FULL, x -> x.income(1000000));
        t.answers(1000000000, x -> x.income(999999));
        t.refuses(Expect.FULL, x -> x.income(1), x -> x.income(1000000));
        t.answers(1000000000, x -> x.income(0));
        purseIs(t, 1000000000, 0, 0, 0, 0);
        t.stayAlike();
    }

    private static void incomeBeyondAheadOfFull() {
        Twins t = twins("16: BEYOND ahead of FULL");
        for (int i = 0; i < 1000; i++) {
            t.given(x -> x.income(1000000));
        }
        t.refuses(Expect.BEYOND, x -> x.income(1000001), x -> x.income(MOST_INT), x -> x.income(-1));
        t.refuses(Expect.FULL, x -> x.income(1));
        t.stayAlike();
    }

    private static void purseOfAnotherWhat() {
        Twins t = twins("17: another what");
        t.refuses(Expect.BEYOND, x -> x.purse(-1), x -> x.purse(6), x -> x.purse(LEAST_INT), x -> x.purse(MOST_INT));
        t.answers(0, x -> x.purse(0));
        t.answers(0, x -> x.purse(5));
        t.stayAlike();
    }

    private static void purseBeforeAnyRoll() {
        Twins t = withSums("17: no ROLL yet", 0, 100);
        purseIs(t, 0, 0, 0, 0, 0);
        t.given(x -> x.months(1));
        purseIs(t, 0, 0, 100, 1, 0);
        t.stayAlike();
    }

    private static void paidToNoSuchHolder() {
        Twins t = withSums("18: there is no such holder", 0, 10, 11, 12, 13, 14, 15, 16, 17, 18, 19);
        t.given(x -> x.income(1000), x -> x.months(1));
        t.refuses(Expect.BEYOND, x -> x.paid(-1), x -> x.paid(10), x -> x.paid(LEAST_INT), x -> x.paid(MOST_INT));
        t.answers(10, x -> x.paid(0));
        t.answers(19, x -> x.paid(9));
        t.stayAlike();
    }

    private static void rollOfTheMonthItIsDue() {
        Twins t = withSums("2: DUE in m", 7, 100);
        t.given(x -> x.decree(0, 0, 2), x -> x.income(100), x -> x.months(9));
        purseIs(t, 100, 0, 0, 0, 0);
        t.given(x -> x.months(1));
        purseIs(t, 0, 100, 0, 1, 1);
        t.stayAlike();
    }

    private static void rollOfADueMonthLongAgo() {
        Twins t = withSums("2: DUE in m or ahead", 0, 100);
        t.given(x -> x.fate(0, 3, 0), x -> x.income(100), x -> x.months(40));
        purseIs(t, 100, 0, 0, 0, 0);
        t.given(x -> x.fate(0, 2, 0), x -> x.months(1));
        purseIs(t, 0, 100, 0, 1, 1);
        t.stayAlike();
    }

    private static void rollOfMonth0() {
        Twins t = withSums("2: month 0 goes, too", 0, 100);
        t.given(x -> x.income(100), x -> x.months(1));
        purseIs(t, 0, 100, 0, 1, 1);
        t.stayAlike();
    }

    private static void rollOfTheLastMonthThatGoes() {
        Twins t = twins("2: month 1198 is the last that goes");
        t.given(x -> x.child(0), x -> x.child(0), x -> x.decree(1, 0, 1000), x -> x.deposit(0, 0, 0, 10, 0),
            x -> x.deposit(0, 1, 0, 20, 1), x -> x.fate(0, 2, 1198), x -> x.fate(1, 2, 1199), x -> x.income(100));
        t.given(x -> x.months(240), x -> x.months(240), x -> x.months(240), x -> x.months(240), x -> x.months(238));
        purseIs(t, 100, 0, 0, 0, 0);
        t.answers(1199, x -> x.months(1));
        purseIs(t, 90, 10, 0, 1, 1);
        t.refuses(Expect.BEYOND, x -> x.months(1));
        purseIs(t, 90, 10, 0, 1, 1);
        t.stayAlike();
    }

    private static void rollWithNobodyOnIt() {
        Twins t = withSums("17: the latest ROLL has nobody on it", 0, 100);
        t.given(x -> x.income(40), x -> x.months(1));
        purseIs(t, 0, 40, 60, 1, 0);
        t.given(x -> x.fate(0, 3, 0), x -> x.months(1));
        purseIs(t, 0, 40, 0, 0, 0);
        t.stayAlike();
    }

    private static void rollOfThirty() {
        int[] sums = new int[30];
        java.util.Arrays.fill(sums, 2);
        Twins t = withSums("17: thirty on the ROLL", 0, sums);
        t.given(x -> x.income(59), x -> x.months(1));
        purseIs(t, 0, 59, 1, 30, 29);
        depositIs(t, 28, 2, 1);
        depositIs(t, 29, 1, 0);
        t.given(x -> x.income(2), x -> x.months(1));
        purseIs(t, 1, 60, 0, 1, 30);
        t.stayAlike();
    }

    private static void purseHasJustAll() {
        Twins t = withSums("2: the PURSE has all that", 0, 100, 200);
        t.given(x -> x.income(300), x -> x.months(1));
        purseIs(t, 0, 300, 0, 2, 2);
        depositIs(t, 0, 100, 1);
        depositIs(t, 1, 200, 1);
        t.stayAlike();
    }

    private static void purseHasOneLess() {
        Twins t = withSums("2: else each gets its part", 0, 100, 200);
        t.given(x -> x.income(299), x -> x.months(1));
        purseIs(t, 0, 299, 1, 2, 1);
        depositIs(t, 0, 100, 1);
        depositIs(t, 1, 199, 0);
        t.stayAlike();
    }

    private static void purseHasNothing() {
        Twins t = withSums("2: the PURSE is empty", 0, 100, 200);
        t.given(x -> x.months(1));
        purseIs(t, 0, 0, 300, 2, 0);
        depositIs(t, 0, 0, 0);
        depositIs(t, 1, 0, 0);
        t.stayAlike();
    }

    private static void purseHasOne() {
        Twins t = withSums("2: the PURSE has 1", 0, 100, 200);
        t.given(x -> x.income(1), x -> x.months(1));
        purseIs(t, 0, 1, 299, 2, 0);
        depositIs(t, 0, 1, 0);
        depositIs(t, 1, 0, 0);
        t.stayAlike();
    }

    private static void leftOverTheLeastFirst() {
        Twins t = withSums("2: what is left over goes 1 to each, the least deposit first", 0, 7, 7, 7);
        t.given(x -> x.income(20), x -> x.months(1));
        depositIs(t, 0, 7, 1);
        depositIs(t, 1, 7, 1);
        depositIs(t, 2, 6, 0);
        purseIs(t, 0, 20, 1, 3, 2);
        t.stayAlike();
    }

    private static void leftOverNotToOneOwedNothing() {
        Twins t = twins("2: to each that is still owed something");
        t.given(x -> x.child(0), x -> x.child(0), x -> x.decree(1, 0, 1000), x -> x.deposit(0, 0, 0, 10, 0),
            x -> x.deposit(0, 1, 0, 10, 1), x -> x.deposit(0, 1, 0, 10, 2));
        t.given(x -> x.fate(0, 0, 0), x -> x.fate(1, 2, 0), x -> x.income(1), x -> x.months(1));
        depositIs(t, 0, 0, 1);
        depositIs(t, 1, 1, 0);
        depositIs(t, 2, 0, 0);
        purseIs(t, 0, 1, 19, 3, 1);
        t.answers(0, x -> x.paid(0));
        t.stayAlike();
    }

    private static void leftOverPaysTheLastOfIt() {
        Twins t = withSums("2: none is PAID OUT by that, unless it is owed nothing any more", 0, 1, 1000, 1);
        t.given(x -> x.income(2), x -> x.months(1));
        depositIs(t, 0, 1, 1);
        depositIs(t, 1, 1, 0);
        depositIs(t, 2, 0, 0);
        purseIs(t, 0, 2, 1000, 3, 1);
        t.stayAlike();
    }

    /** Owed times the PURSE is far above what an int holds. */
    private static void sharesDontWrapAround() {
        Twins t = twins("2: its owed times the PURSE");
        t.given(x -> x.child(0), x -> x.rate(15, 1000));
        for (int i = 0; i < 30; i++) {
            t.given(x -> x.deposit(0, 0, 0, 10000, 5));
        }
        t.given(x -> x.months(180), x -> x.fate(0, 0, 180), x -> x.income(1000000), x -> x.income(1000000),
            x -> x.income(999999), x -> x.months(1));
        purseIs(t, 0, 2999999, 1, 30, 29);
        depositIs(t, 0, 100000, 1);
        depositIs(t, 29, 99999, 0);
        t.answers(2999999, x -> x.paid(5));
        t.stayAlike();
    }

    private static void owedLessWhatItWasPaid() {
        Twins t = withSums("2: what it is due then less what it was paid", 0, 100);
        t.given(x -> x.income(99), x -> x.months(1));
        depositIs(t, 0, 99, 0);
        t.given(x -> x.income(50), x -> x.months(1));
        depositIs(t, 0, 100, 1);
        purseIs(t, 49, 100, 0, 1, 1);
        t.stayAlike();
    }

    private static void owedNothingAtLeast() {
        Twins t = withSums("2: 0 at least", 0, 100, 100);
        t.given(x -> x.income(120), x -> x.months(1), x -> x.decree(1, 0, 599), x -> x.months(1));
        depositIs(t, 0, 60, 1);
        depositIs(t, 1, 60, 1);
        purseIs(t, 0, 120, 0, 2, 2);
        t.stayAlike();
        Twins more = withSums("2: still owed 1", 0, 100, 100);
        more.given(x -> x.income(120), x -> x.months(1), x -> x.decree(1, 0, 610), x -> x.months(1));
        depositIs(more, 0, 60, 0);
        purseIs(more, 0, 120, 2, 2, 0);
        more.stayAlike();
    }

    private static void owedNothingIsPaidOut() {
        Twins t = withSums("2: a DEPOSIT that is owed 0 on the ROLL is PAID OUT", 0, 100);
        t.given(x -> x.decree(4, 0, 1000), x -> x.months(1));
        depositIs(t, 0, 0, 1);
        purseIs(t, 0, 0, 0, 1, 1);
        t.given(x -> x.decree(4, 0, 0), x -> x.income(100), x -> x.months(1));
        depositIs(t, 0, 0, 1);
        purseIs(t, 100, 0, 0, 0, 1);
        t.stayAlike();
    }

    private static void paidOutStaysSo() {
        Twins t = withSums("2: what is PAID OUT stays so", 0, 100);
        t.given(x -> x.decree(1, 0, 500), x -> x.income(500), x -> x.months(1));
        depositIs(t, 0, 50, 1);
        t.given(x -> x.decree(1, 0, 1000), x -> x.months(1));
        depositIs(t, 0, 50, 1);
        t.given(x -> x.fate(0, 3, 0), x -> x.months(1), x -> x.fate(0, 0, 3), x -> x.decree(3, 0, 1000));
        t.given(x -> x.months(1));
        depositIs(t, 0, 50, 1);
        purseIs(t, 450, 50, 0, 0, 1);
        t.answers(100, x -> x.due(0, 4, 2));
        t.stayAlike();
    }

    private static void paidToTheHolderOfTheMonth() {
        Twins t = withSums("2: each payment goes to the HOLDER of month m", 3, 100);
        t.given(x -> x.income(10), x -> x.months(3), x -> x.sell(0, 6), x -> x.months(1), x -> x.sell(0, 7));
        t.answers(0, x -> x.paid(0));
        t.answers(10, x -> x.paid(6));
        t.answers(0, x -> x.paid(7));
        t.given(x -> x.income(90), x -> x.months(1));
        t.answers(10, x -> x.paid(6));
        t.answers(90, x -> x.paid(7));
        t.stayAlike();
    }

    private static void paidToAllTenHolders() {
        int[] sums = {1, 2, 3, 4, 5, 6, 7, 8, 9, 10, 11};
        Twins t = withSums("18: what a HOLDER was paid in all", 0, sums);
        t.given(x -> x.income(66), x -> x.months(1));
        for (int i = 0; i <= 9; i++) {
            int holder = i;
            t.answers(i == 0 ? 12 : i + 1, x -> x.paid(holder));
        }
        purseIs(t, 0, 66, 0, 11, 11);
        t.stayAlike();
    }

    private static void eachOfSeveralMonthsHasItsRoll() {
        Twins t = twins("2: n months go, each with its ROLL");
        t.given(x -> x.decree(1, 0, 1000), x -> x.income(25));
        for (int i = 0; i < 3; i++) {
            int child = i;
            t.given(x -> x.child(0), x -> x.deposit(0, child, 0, 10, child), x -> x.fate(child, 2, 1 + child));
        }
        t.given(x -> x.months(3));
        purseIs(t, 5, 20, 0, 1, 2);
        t.given(x -> x.months(1));
        purseIs(t, 0, 25, 5, 1, 2);
        t.stayAlike();
    }

    private static void owedByPartsOverYears() {
        Twins t = withSums("2: arrears stay, 240 months long", 0, 100, 50);
        t.given(x -> x.income(30), x -> x.months(240));
        purseIs(t, 0, 30, 120, 2, 0);
        depositIs(t, 0, 20, 0);
        depositIs(t, 1, 10, 0);
        t.stayAlike();
    }
}
