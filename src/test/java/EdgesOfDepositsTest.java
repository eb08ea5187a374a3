/** Promises 9 to 13, each sentence that names a boundary: the last that is allowed, the first that isn't. */
public final class EdgesOfDepositsTest {
    private static final int LEAST_INT = Integer.MIN_VALUE;
    private static final int MOST_INT = Integer.MAX_VALUE;
    private static final int[] ALL_INTS = {LEAST_INT, -1, 0, 1, 2, 3, 29, 30, MOST_INT};
    private static final Expect EXPECT = new Expect();

    public static void main(String[] args) {
        depositKinds();
        depositChild();
        depositOtherOfAJointOne();
        depositOtherIsNotLookedAt(0);
        depositOtherIsNotLookedAt(2);
        depositHolder();
        depositSum();
        depositOfTheSameChildren();
        depositOfAChildWithAFate();
        depositOfAJointOnesFates();
        depositOfAFateUndone();
        depositInTheMonthOfAFate();
        thirtyDeposits();
        depositFindingsInOrder();
        dowryIsCut();
        dowryOfYearsCut();
        dowryOfTwentyYears();
        termAsInForceInThatMonth();
        termAsKnownInThatMonth();
        endBehindTheLastMonth();
        aboutNoSuchDeposit();
        aboutAnotherWhat();
        aboutOtherOfAllKinds();
        aboutBeyondAheadOfNone();
        asNoSuchDeposit();
        asNoSuchKind();
        asKindsAndThoseUnder();
        asBeyondAheadOfKind();
        EXPECT.end();
    }

    private static Twins twins(String sentence) {
        return new Twins(EXPECT, sentence);
    }

    private static Twins withChildren(String sentence, int n) {
        Twins t = twins(sentence);
        for (int i = 0; i < n; i++) {
            t.given(x -> x.child(0));
        }
        return t;
    }

    /** Deposits of every kind, of sums 10, 11, 12, made in month 5. */
    private static Twins withKinds(String sentence) {
        Twins t = withChildren(sentence, 2);
        t.given(x -> x.months(5), x -> x.deposit(0, 1, 0, 10, 7), x -> x.deposit(1, 1, 0, 11, 8),
            x -> x.deposit(2, 0, 0, 12, 9));
        return t;
    }

    private static void depositKinds() {
        Twins t = withChildren("9: there is no such kind", 2);
        t.refuses(Expect.BEYOND, x -> x.deposit(-1, 0, 1, 5, 0), x -> x.deposit(3, 0, 1, 5, 0),
            x -> x.deposit(LEAST_INT, 0, 1, 5, 0), x -> x.deposit(MOST_INT, 0, 1, 5, 0));
        for (int i = 0; i <= 2; i++) {
            int kind = i;
            t.answers(kind, x -> x.deposit(kind, 0, 1, 5, 0));
            t.answers(kind, x -> x.about(kind, 0));
        }
        t.stayAlike();
    }

    private static void depositChild() {
        Twins t = withChildren("9: there is no such child", 2);
        for (int i = 0; i <= 2; i++) {
            int kind = i;
            t.refuses(Expect.BEYOND, x -> x.deposit(kind, -1, 0, 5, 0), x -> x.deposit(kind, 2, 0, 5, 0),
                x -> x.deposit(kind, LEAST_INT, 0, 5, 0), x -> x.deposit(kind, MOST_INT, 0, 5, 0));
        }
        t.answers(0, x -> x.deposit(0, 0, 0, 5, 0));
        t.answers(1, x -> x.deposit(0, 1, 0, 5, 0));
        t.answers(2, x -> x.count(4));
        t.stayAlike();
    }

    private static void depositOtherOfAJointOne() {
        Twins t = withChildren("9: there is no such other one (JOINT)", 2);
        t.refuses(Expect.BEYOND, x -> x.deposit(1, 0, -1, 5, 0), x -> x.deposit(1, 0, 2, 5, 0),
            x -> x.deposit(1, 0, LEAST_INT, 5, 0), x -> x.deposit(1, 0, MOST_INT, 5, 0));
        t.answers(0, x -> x.deposit(1, 0, 1, 5, 0));
        t.answers(1, x -> x.deposit(1, 1, 0, 5, 0));
        t.answers(1, x -> x.about(0, 2));
        t.answers(0, x -> x.about(1, 2));
        t.stayAlike();
    }

    private static void depositOtherIsNotLookedAt(int kind) {
        Twins t = withChildren("9: other isn't looked at, kind " + kind, 2);
        t.given(x -> x.fate(1, 0, 5));
        for (int i = 0; i < ALL_INTS.length; i++) {
            int nth = i;
            t.answers(nth, x -> x.deposit(kind, 0, ALL_INTS[nth], 5, 0));
        }
        t.stayAlike();
    }

    private static void depositHolder() {
        Twins t = withChildren("9: there is no such holder", 1);
        t.refuses(Expect.BEYOND, x -> x.deposit(0, 0, 0, 5, -1), x -> x.deposit(0, 0, 0, 5, 10),
            x -> x.deposit(0, 0, 0, 5, LEAST_INT), x -> x.deposit(0, 0, 0, 5, MOST_INT));
        t.answers(0, x -> x.deposit(0, 0, 0, 5, 0));
        t.answers(1, x -> x.deposit(0, 0, 0, 5, 9));
        t.answers(0, x -> x.holder(0, 0));
        t.answers(9, x -> x.holder(1, 0));
        t.stayAlike();
    }

    private static void depositSum() {
        Twins t = withChildren("9: sum is 1 .. 10000", 1);
        t.refuses(Expect.BEYOND, x -> x.deposit(0, 0, 0, 0, 0), x -> x.deposit(0, 0, 0, 10001, 0),
            x -> x.deposit(0, 0, 0, -1, 0), x -> x.deposit(0, 0, 0, LEAST_INT, 0),
            x -> x.deposit(0, 0, 0, MOST_INT, 0));
        t.answers(0, x -> x.deposit(0, 0, 0, 1, 0));
        t.answers(1, x -> x.deposit(0, 0, 0, 10000, 0));
        t.answers(1, x -> x.about(0, 3));
        t.answers(10000, x -> x.about(1, 3));
        t.stayAlike();
    }

    private static void depositOfTheSameChildren() {
        Twins t = withChildren("9: KIND: both children are the same (JOINT)", 2);
        t.refuses(Expect.KIND, x -> x.deposit(1, 0, 0, 5, 0), x -> x.deposit(1, 1, 1, 5, 0));
        t.answers(0, x -> x.deposit(1, 0, 1, 5, 0));
        t.answers(1, x -> x.deposit(0, 1, 1, 5, 0));
        t.answers(2, x -> x.deposit(2, 1, 1, 5, 0));
        t.stayAlike();
    }

    private static void depositOfAChildWithAFate() {
        Twins t = withChildren("9: STATE: a child's FATE is there already", 4);
        t.given(x -> x.months(9), x -> x.fate(0, 0, 1199), x -> x.fate(1, 1, 0), x -> x.fate(2, 2, 9));
        for (int i = 0; i <= 2; i++) {
            int child = i;
            t.refuses(Expect.STATE, x -> x.deposit(0, child, 3, 5, 0), x -> x.deposit(2, child, 3, 5, 0));
        }
        t.answers(0, x -> x.deposit(0, 3, 0, 5, 0));
        t.answers(1, x -> x.deposit(2, 3, 0, 5, 0));
        t.stayAlike();
    }

    private static void depositOfAJointOnesFates() {
        Twins t = withChildren("9: STATE: of either child (JOINT)", 3);
        t.given(x -> x.fate(0, 2, 100));
        t.refuses(Expect.STATE, x -> x.deposit(1, 0, 1, 5, 0), x -> x.deposit(1, 1, 0, 5, 0));
        t.answers(0, x -> x.deposit(1, 1, 2, 5, 0));
        t.stayAlike();
    }

    private static void depositOfAFateUndone() {
        Twins t = withChildren("9: STATE: as KNOWN now", 2);
        t.given(x -> x.fate(0, 0, 9), x -> x.months(1));
        t.refuses(Expect.STATE, x -> x.deposit(0, 0, 0, 5, 0), x -> x.deposit(1, 1, 0, 5, 0));
        t.given(x -> x.fate(0, 3, 0));
        t.answers(0, x -> x.deposit(0, 0, 0, 5, 0));
        t.answers(1, x -> x.deposit(1, 1, 0, 5, 0));
        t.given(x -> x.fate(0, 1, 9));
        t.refuses(Expect.STATE, x -> x.deposit(2, 0, 0, 5, 0));
        t.stayAlike();
    }

    private static void depositInTheMonthOfAFate() {
        Twins t = withChildren("9: a FATE told behind it refuses no deposit", 1);
        t.answers(0, x -> x.deposit(0, 0, 0, 5, 0));
        t.given(x -> x.fate(0, 0, 0));
        t.refuses(Expect.STATE, x -> x.deposit(0, 0, 0, 5, 0));
        t.answers(1, x -> x.count(4));
        t.answers(0, x -> x.due(0, 0, 0));
        t.stayAlike();
    }

    private static void thirtyDeposits() {
        Twins t = withChildren("9: at most 30 deposits", 2);
        for (int i = 0; i < 29; i++) {
            t.given(x -> x.deposit(0, 0, 0, 5, 0));
        }
        t.answers(29, x -> x.deposit(1, 0, 1, 77, 3));
        t.refuses(Expect.FULL, x -> x.deposit(0, 0, 0, 5, 0), x -> x.deposit(1, 0, 1, 5, 0),
            x -> x.deposit(2, 1, 0, 5, 0));
        t.answers(30, x -> x.count(4));
        t.answers(77, x -> x.about(29, 3));
        t.refuses(Expect.BEYOND, x -> x.about(30, 0), x -> x.as(30, 0), x -> x.sell(30, 0), x -> x.holder(30, 0),
            x -> x.due(30, 0, 0));
        t.stayAlike();
    }

    private static void depositFindingsInOrder() {
        Twins t = withChildren("9: BEYOND, KIND, STATE, FULL in this order", 3);
        for (int i = 0; i < 30; i++) {
            t.given(x -> x.deposit(0, 2, 0, 5, 0));
        }
        t.given(x -> x.fate(0, 0, 5));
        t.refuses(Expect.BEYOND, x -> x.deposit(1, 0, 0, 0, 0), x -> x.deposit(1, 0, 0, 5, 10),
            x -> x.deposit(0, 0, 0, 10001, 0), x -> x.deposit(1, 0, 3, 5, 0), x -> x.deposit(3, 0, 0, 5, 0),
            x -> x.deposit(0, 3, 0, 5, 0), x -> x.deposit(0, 2, 0, 0, 0));
        t.refuses(Expect.KIND, x -> x.deposit(1, 0, 0, 5, 0), x -> x.deposit(1, 2, 2, 5, 0));
        t.refuses(Expect.STATE, x -> x.deposit(0, 0, 0, 5, 0), x -> x.deposit(1, 2, 0, 5, 0));
        t.refuses(Expect.FULL, x -> x.deposit(0, 2, 0, 5, 0), x -> x.deposit(1, 1, 2, 5, 0));
        t.stayAlike();
    }

    private static void dowryIsCut() {
        Twins t = withChildren("9: DOWRY: by 100, cut", 1);
        t.given(x -> x.rate(15, 199), x -> x.deposit(0, 0, 0, 1, 0), x -> x.deposit(0, 0, 0, 100, 0));
        t.given(x -> x.rate(15, 101), x -> x.deposit(0, 0, 0, 99, 0), x -> x.deposit(0, 0, 0, 100, 0));
        t.given(x -> x.rate(15, 1000), x -> x.deposit(0, 0, 0, 10000, 0));
        long[] dowries = {1, 199, 99, 101, 100000};
        for (int i = 0; i < dowries.length; i++) {
            int deposit = i;
            t.answers(dowries[i], x -> x.about(deposit, 4));
        }
        t.stayAlike();
    }

    private static void dowryOfYearsCut() {
        Twins t = withChildren("9: the RATE of TERM by 12, cut", 1);
        for (int i = 1; i <= 20; i++) {
            int years = i;
            t.given(x -> x.rate(years, 100 * Math.min(10, years)));
        }
        int[] terms = {12, 13, 23, 24, 35, 36, 119};
        long[] dowries = {1, 1, 1, 2, 2, 3, 9};
        for (int i = 0; i < terms.length; i++) {
            int deposit = i;
            t.given(x -> x.decree(5, 0, terms[deposit]));
            t.answers(deposit, x -> x.deposit(0, 0, 0, 1, 0));
            t.answers(dowries[deposit], x -> x.about(deposit, 4));
            t.answers(terms[deposit], x -> x.about(deposit, 5));
        }
        t.stayAlike();
    }

    private static void dowryOfTwentyYears() {
        Twins t = withChildren("9: at most 20 years", 1);
        t.given(x -> x.rate(19, 300), x -> x.rate(20, 400), x -> x.decree(5, 0, 239), x -> x.deposit(0, 0, 0, 1, 0));
        t.given(x -> x.decree(5, 0, 240), x -> x.deposit(0, 0, 0, 1, 0));
        t.answers(3, x -> x.about(0, 4));
        t.answers(4, x -> x.about(1, 4));
        t.stayAlike();
    }

    private static void termAsInForceInThatMonth() {
        Twins t = withChildren("9: TERM as IN FORCE in that month", 1);
        t.given(x -> x.decree(5, 10, 60), x -> x.months(9), x -> x.deposit(0, 0, 0, 1, 0));
        t.given(x -> x.months(1), x -> x.deposit(0, 0, 0, 1, 0));
        t.answers(189, x -> x.about(0, 5));
        t.answers(70, x -> x.about(1, 5));
        t.stayAlike();
    }

    private static void termAsKnownInThatMonth() {
        Twins t = withChildren("9: TERM as KNOWN in that month", 1);
        t.given(x -> x.rate(5, 500), x -> x.deposit(0, 0, 0, 1, 0), x -> x.decree(5, 0, 60));
        t.given(x -> x.deposit(0, 0, 0, 1, 0));
        t.answers(180, x -> x.about(0, 5));
        t.answers(1, x -> x.about(0, 4));
        t.answers(60, x -> x.about(1, 5));
        t.answers(5, x -> x.about(1, 4));
        t.stayAlike();
    }

    private static void endBehindTheLastMonth() {
        Twins t = withChildren("9: END may be behind 1199", 1);
        t.given(x -> x.months(240), x -> x.months(240), x -> x.months(240), x -> x.months(240), x -> x.months(239));
        t.given(x -> x.decree(5, 1199, 240));
        t.answers(0, x -> x.deposit(0, 0, 0, 1, 0));
        t.answers(1439, x -> x.about(0, 5));
        t.answers(1199, x -> x.about(0, 6));
        t.stayAlike();
    }

    private static void aboutNoSuchDeposit() {
        Twins t = withKinds("10: there is no such deposit");
        t.refuses(Expect.BEYOND, x -> x.about(-1, 0), x -> x.about(3, 0), x -> x.about(LEAST_INT, 3),
            x -> x.about(MOST_INT, 3));
        t.answers(10, x -> x.about(0, 3));
        t.answers(12, x -> x.about(2, 3));
        t.stayAlike();
    }

    private static void aboutAnotherWhat() {
        Twins t = withKinds("10: another what");
        t.refuses(Expect.BEYOND, x -> x.about(1, -1), x -> x.about(1, 9), x -> x.about(1, LEAST_INT),
            x -> x.about(1, MOST_INT));
        long[] want = {1, 1, 0, 11, 11, 185, 5, 0, 0};
        for (int i = 0; i < want.length; i++) {
            int what = i;
            t.answers(want[i], x -> x.about(1, what));
        }
        t.stayAlike();
    }

    private static void aboutOtherOfAllKinds() {
        Twins t = withKinds("10: NONE: not JOINT");
        t.refuses(Expect.NONE, x -> x.about(0, 2), x -> x.about(2, 2));
        t.answers(0, x -> x.about(1, 2));
        t.stayAlike();
    }

    private static void aboutBeyondAheadOfNone() {
        Twins t = withKinds("10: BEYOND ahead of NONE");
        t.refuses(Expect.BEYOND, x -> x.about(3, 2), x -> x.about(-1, 2));
        t.refuses(Expect.NONE, x -> x.about(2, 2));
        t.stayAlike();
    }

    private static void asNoSuchDeposit() {
        Twins t = withKinds("11: there is no such deposit");
        t.refuses(Expect.BEYOND, x -> x.as(-1, 0), x -> x.as(3, 0), x -> x.as(LEAST_INT, 0), x -> x.as(MOST_INT, 0));
        t.answers(10, x -> x.as(0, 0));
        t.answers(12, x -> x.as(2, 0));
        t.stayAlike();
    }

    private static void asNoSuchKind() {
        Twins t = withKinds("11: there is no such kind");
        t.refuses(Expect.BEYOND, x -> x.as(2, -1), x -> x.as(2, 3), x -> x.as(2, LEAST_INT), x -> x.as(2, MOST_INT));
        t.answers(12, x -> x.as(2, 0));
        t.answers(12, x -> x.as(2, 2));
        t.stayAlike();
    }

    private static void asKindsAndThoseUnder() {
        Twins t = withKinds("11: KIND: it isn't of that kind, nor of one under it");
        t.refuses(Expect.KIND, x -> x.as(0, 1), x -> x.as(0, 2), x -> x.as(1, 2), x -> x.as(2, 1));
        t.answers(10, x -> x.as(0, 0));
        t.answers(11, x -> x.as(1, 0));
        t.answers(11, x -> x.as(1, 1));
        t.answers(12, x -> x.as(2, 0));
        t.answers(12, x -> x.as(2, 2));
        t.stayAlike();
    }

    private static void asBeyondAheadOfKind() {
        Twins t = withKinds("11: BEYOND ahead of KIND");
        t.refuses(Expect.BEYOND, x -> x.as(3, 1), x -> x.as(0, 3), x -> x.as(0, -1));
        t.refuses(Expect.KIND, x -> x.as(0, 1));
        t.stayAlike();
    }
}
