/** Promises 22 to 25, each sentence that names a boundary: the last that is allowed, the first that isn't. */
public final class EdgesOfToldTest {
    private static final int LEAST_INT = Integer.MIN_VALUE;
    private static final int MOST_INT = Integer.MAX_VALUE;
    private static final Expect EXPECT = new Expect();

    public static void main(String[] args) {
        thirtyWait();
        tellAnyNumber();
        tellAgainBehindACheck();
        checkOfNothing();
        checkMoreThanNone();
        checkTheFirstThatIsNot();
        checkTheFirstThatIsMissing();
        checkOneTooMany();
        checkWrongAheadOfTooMany();
        checkAllThirty();
        checkTheLastOfThirty();
        checkOneThatDoesNotFall();
        checkAsKnownInTheMonth();
        checkWhatIsDueNothingTakenOff();
        checkLeavesNoneWaiting();
        checkIsNoFinding();
        countOfAnotherWhat();
        countOfTheFull();
        foundOfAnotherK();
        foundIsCountedToo();
        foundOfEach();
        foundOfManyActs();
        EXPECT.end();
    }

    private static Twins twins(String sentence) {
        return new Twins(EXPECT, sentence);
    }

    /** A child who dies in month 9; deposits of these sums: half of each is due. */
    private static Twins withSums(String sentence, int... sums) {
        Twins t = twins(sentence);
        t.given(x -> x.child(0));
        for (int sum : sums) {
            t.given(x -> x.deposit(0, 0, 0, sum, 0));
        }
        t.given(x -> x.fate(0, 2, 9));
        return t;
    }

    private static void checkIs(Twins t, long want, int... numbers) {
        for (int v : numbers) {
            t.given(x -> x.tell(v));
        }
        t.answers(want, x -> x.check());
        t.answers(0, x -> x.count(5));
    }

    private static void thirtyWait() {
        Twins t = twins("22: FULL: 30 wait");
        for (int i = 1; i <= 30; i++) {
            int nth = i;
            t.answers(nth, x -> x.tell(0));
        }
        t.refuses(Expect.FULL, x -> x.tell(0), x -> x.tell(MOST_INT), x -> x.tell(-1));
        t.answers(30, x -> x.count(5));
        t.stayAlike();
    }

    private static void tellAnyNumber() {
        Twins t = withSums("22: any number", 10);
        t.answers(1, x -> x.tell(LEAST_INT));
        t.answers(2, x -> x.tell(MOST_INT));
        t.answers(3, x -> x.tell(-1));
        t.answers(1, x -> x.check());
        t.stayAlike();
    }

    private static void tellAgainBehindACheck() {
        Twins t = twins("22: none wait behind a check");
        for (int i = 0; i < 30; i++) {
            t.given(x -> x.tell(5));
        }
        t.refuses(Expect.FULL, x -> x.tell(5));
        t.answers(99, x -> x.check());
        t.answers(1, x -> x.tell(5));
        t.answers(2, x -> x.tell(5));
        t.stayAlike();
    }

    private static void checkOfNothing() {
        Twins t = twins("23: none were told, there are no DEPOSITS");
        checkIs(t, 0);
        checkIs(t, 0);
        t.stayAlike();
    }

    private static void checkMoreThanNone() {
        Twins t = twins("23: 99, there are no DEPOSITS");
        checkIs(t, 99, 0);
        checkIs(t, 99, 7, 8);
        t.stayAlike();
    }

    private static void checkTheFirstThatIsNot() {
        Twins t = withSums("23: 1 and k for the first that isn't", 10, 20, 30);
        checkIs(t, 0, 5, 10, 15);
        checkIs(t, 1, 6, 10, 15);
        checkIs(t, 1, 4, 9, 14);
        checkIs(t, 2, 5, 11, 15);
        checkIs(t, 2, 5, 9, 14);
        checkIs(t, 3, 5, 10, 16);
        checkIs(t, 3, 5, 10, 14);
        t.stayAlike();
    }

    private static void checkTheFirstThatIsMissing() {
        Twins t = withSums("23: 1 and k for the first that is missing", 10, 20, 30);
        checkIs(t, 1);
        checkIs(t, 2, 5);
        checkIs(t, 3, 5, 10);
        checkIs(t, 1, 10);
        t.stayAlike();
    }

    private static void checkOneTooMany() {
        Twins t = withSums("23: 99 if more were told", 10, 20);
        checkIs(t, 0, 5, 10);
        checkIs(t, 99, 5, 10, 0);
        checkIs(t, 99, 5, 10, 0, 0);
        t.stayAlike();
    }

    private static void checkWrongAheadOfTooMany() {
        Twins t = withSums("23: the first that isn't, ahead of 99", 10, 20);
        checkIs(t, 1, 4, 10, 0);
        checkIs(t, 2, 5, 0, 10);
        t.stayAlike();
    }

    private static Twins withThirty(String sentence) {
        int[] sums = new int[30];
        for (int i = 0; i < 30; i++) {
            sums[i] = 2 * i + 2;
        }
        return withSums(sentence, sums);
    }

    private static int[] thirty() {
        int[] numbers = new int[30];
        for (int i = 0; i < 30; i++) {
            numbers[i] = i + 1;
        }
        return numbers;
    }

    private static void checkAllThirty() {
        Twins t = withThirty("23: all thirty");
        checkIs(t, 0, thirty());
        t.stayAlike();
    }

    private static void checkTheLastOfThirty() {
        Twins t = withThirty("23: 1 and k up to 30");
        int[] numbers = thirty();
        numbers[29]++;
        checkIs(t, 30, numbers);
        checkIs(t, 30, java.util.Arrays.copyOf(thirty(), 29));
        t.stayAlike();
    }

    private static void checkOneThatDoesNotFall() {
        Twins t = withSums("23: 0: they don't fall", 10);
        t.given(x -> x.child(0), x -> x.deposit(0, 1, 0, 50, 0));
        checkIs(t, 0, 5, 0);
        checkIs(t, 2, 5, 25);
        checkIs(t, 2, 5);
        t.stayAlike();
    }

    private static void checkAsKnownInTheMonth() {
        Twins t = withSums("23: as KNOWN in THE MONTH", 10);
        checkIs(t, 0, 5);
        t.given(x -> x.months(1), x -> x.decree(1, 0, 1000));
        checkIs(t, 0, 10);
        checkIs(t, 1, 5);
        t.given(x -> x.fate(0, 3, 0));
        checkIs(t, 0, 0);
        checkIs(t, 1, 10);
        t.stayAlike();
    }

    private static void checkWhatIsDueNothingTakenOff() {
        Twins t = withSums("23: what they are due, though it was paid", 10, 20);
        t.given(x -> x.income(15), x -> x.months(10));
        t.answers(2, x -> x.purse(5));
        checkIs(t, 0, 5, 10);
        checkIs(t, 1, 0, 0);
        t.stayAlike();
    }

    private static void checkLeavesNoneWaiting() {
        Twins t = withSums("23: none do then", 10);
        t.given(x -> x.tell(5));
        t.answers(0, x -> x.check());
        t.answers(1, x -> x.check());
        t.given(x -> x.tell(6), x -> x.tell(5));
        t.answers(1, x -> x.check());
        t.given(x -> x.tell(5));
        t.answers(0, x -> x.check());
        t.stayAlike();
    }

    private static void checkIsNoFinding() {
        Twins t = withSums("23: a check counts no finding", 10);
        t.given(x -> x.child(0), x -> x.deposit(0, 1, 0, 10, 0));
        checkIs(t, 0, 5, 0);
        checkIs(t, 1);
        checkIs(t, 99, 5, 0, 0);
        for (int i = 1; i <= 5; i++) {
            int k = i;
            t.answers(0, x -> x.found(k));
        }
        t.stayAlike();
    }

    private static void countOfAnotherWhat() {
        Twins t = twins("24: another what");
        t.refuses(Expect.BEYOND, x -> x.count(-1), x -> x.count(6), x -> x.count(LEAST_INT), x -> x.count(MOST_INT));
        t.answers(0, x -> x.count(0));
        t.answers(0, x -> x.count(5));
        t.stayAlike();
    }

    private static void countOfTheFull() {
        Twins t = twins("24: how many, when all are full");
        for (int i = 0; i < 30; i++) {
            t.given(x -> x.child(0), x -> x.deposit(0, 0, 0, 1, 0), x -> x.tell(0));
        }
        for (int i = 0; i < 60; i++) {
            t.given(x -> x.decree(0, 0, 0));
        }
        for (int i = 0; i < 90; i++) {
            t.given(x -> x.fate(29, 0, 0));
        }
        t.refuses(Expect.FULL, x -> x.child(0), x -> x.deposit(0, 0, 0, 1, 0), x -> x.tell(0), x -> x.decree(0, 0, 0),
            x -> x.fate(29, 0, 0));
        long[] want = {0, 60, 30, 90, 30, 30};
        for (int i = 0; i < want.length; i++) {
            int what = i;
            t.answers(want[i], x -> x.count(what));
        }
        t.stayAlike();
    }

    private static void foundOfAnotherK() {
        Twins t = twins("25: k is 1 .. 5");
        t.refuses(Expect.BEYOND, x -> x.found(0), x -> x.found(6), x -> x.found(-1), x -> x.found(LEAST_INT),
            x -> x.found(MOST_INT));
        t.answers(0, x -> x.found(5));
        t.stayAlike();
    }

    private static void foundIsCountedToo() {
        DowryFund x = new DowryFund();
        EXPECT.is("25: at first", x.found(1), 0);
        EXPECT.is("25: another k", x.found(0), Expect.BEYOND);
        EXPECT.is("25: counted, too", x.found(1), 1);
        EXPECT.is("25: another k", x.found(6), Expect.BEYOND);
        EXPECT.is("25: counted, too", x.found(1), 2);
        EXPECT.is("25: asking for one that is isn't counted", x.found(1), 2);
        for (int k = 2; k <= 5; k++) {
            EXPECT.is("25: no other is", x.found(k), 0);
        }
    }

    /** One act for each finding, so often that no two counts are alike. */
    private static void foundOfEach() {
        DowryFund x = new DowryFund();
        x.child(0);
        x.deposit(0, 0, 0, 1, 0);
        for (int i = 0; i < 30; i++) {
            x.tell(0);
        }
        for (int i = 0; i < 2; i++) {
            x.told(0, 0, true);
        }
        for (int i = 0; i < 4; i++) {
            x.tell(0);
        }
        for (int i = 0; i < 5; i++) {
            x.as(0, 2);
        }
        x.count(6);
        x.fate(0, 0, 0);
        for (int i = 0; i < 3; i++) {
            x.deposit(0, 0, 0, 1, 0);
        }
        for (int k = 1; k <= 5; k++) {
            EXPECT.is("25: how many answered LOW - " + k, x.found(k), k);
        }
    }

    private static void foundOfManyActs() {
        DowryFund x = new DowryFund();
        for (int i = 0; i < 500; i++) {
            x.months(0);
        }
        EXPECT.is("25: of five hundred acts", x.found(1), 500);
        EXPECT.is("25: none else", x.found(4), 0);
    }
}
