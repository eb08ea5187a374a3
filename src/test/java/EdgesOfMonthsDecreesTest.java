/** Promises 1 to 5, each sentence that names a boundary: the last that is allowed, the first that isn't. */
public final class EdgesOfMonthsDecreesTest {
    private static final int LEAST_INT = Integer.MIN_VALUE;
    private static final int MOST_INT = Integer.MAX_VALUE;
    private static final int[] LEAST = {0, 0, 0, 0, 0, 12};
    private static final int[] MOST = {60, 1000, 1000, 1000, 1000, 240};
    private static final int[] WITHOUT = {0, 500, 400, 0, 0, 180};
    private static final Expect EXPECT = new Expect();

    public static void main(String[] args) {
        findingsAreTheseNumbers();
        newObjectIsEmpty();
        newObjectHasTheValuesAtFirst();
        oneMonthAtLeast();
        months240AtMost();
        monthIs1199AtMost();
        monthsDontWrapAround();
        refusedMonthsPayNobody();
        decreeKinds();
        decreeFrom();
        for (int kind = 0; kind <= 5; kind++) {
            decreeValueLeast(kind);
            decreeValueMost(kind);
        }
        sixtyDecrees();
        decreeBeyondAheadOfFull();
        forceKinds();
        forceMonth();
        forceKnown();
        forceWithoutADecree();
        forceFromItsMonthOn();
        forceKnownFromTheMonthItWasTold();
        forceOfTheLatestFrom();
        forceOfSeveralTheOneToldLast();
        forceOfADecreeToldForLongAgo();
        rateYears();
        rateValues();
        rateHoldsForDepositsFromThenOn();
        EXPECT.end();
    }

    private static Twins twins(String sentence) {
        return new Twins(EXPECT, sentence);
    }

    private static void findingsAreTheseNumbers() {
        DowryFund x = new DowryFund();
        x.child(0);
        x.child(0);
        x.deposit(0, 0, 0, 1, 0);
        EXPECT.is("LOW - 1", x.count(6), -1000000000001L);
        EXPECT.is("LOW - 2", x.told(0, 0, true), -1000000000002L);
        EXPECT.is("LOW - 5", x.as(0, 1), -1000000000005L);
        x.fate(0, 0, 0);
        EXPECT.is("LOW - 3", x.deposit(0, 0, 0, 1, 0), -1000000000003L);
        for (int i = 0; i < 30; i++) {
            x.tell(i);
        }
        EXPECT.is("LOW - 4", x.tell(0), -1000000000004L);
    }

    private static void newObjectIsEmpty() {
        Twins t = twins("1: all as told, empty");
        for (int i = 0; i <= 5; i++) {
            int what = i;
            t.answers(0, x -> x.count(what));
            t.answers(0, x -> x.purse(what));
        }
        t.answers(0, x -> x.foretold(0));
        t.answers(0, x -> x.foretold(1199));
        t.answers(0, x -> x.check());
        t.refuses(Expect.BEYOND, x -> x.fate(0, 0, 0), x -> x.told(0, 0, false), x -> x.deposit(0, 0, 0, 1, 0),
            x -> x.about(0, 0), x -> x.as(0, 0), x -> x.sell(0, 0), x -> x.holder(0, 0), x -> x.due(0, 0, 0));
        t.answers(1, x -> x.months(1));
        t.answers(0, x -> x.purse(4));
        t.stayAlike();
    }

    private static void newObjectHasTheValuesAtFirst() {
        Twins t = twins("1: all as told, at first");
        for (int i = 1; i <= 5; i++) {
            int k = i;
            t.answers(0, x -> x.found(k));
        }
        for (int i = 1; i <= 20; i++) {
            int years = i;
            t.answers(100, x -> x.rate(years, 100));
        }
        for (int i = 0; i <= 20; i++) {
            int age = i;
            t.answers(1000000, x -> x.left(age, 21));
            t.answers(0, x -> x.value(age, 21, 100000));
        }
        for (int i = 0; i <= 9; i++) {
            int holder = i;
            t.answers(0, x -> x.paid(holder));
        }
        t.stayAlike();
    }

    private static void oneMonthAtLeast() {
        Twins t = twins("2: n is 1 at least");
        t.refuses(Expect.BEYOND, x -> x.months(0), x -> x.months(-1), x -> x.months(LEAST_INT));
        t.answers(1, x -> x.months(1));
        t.refuses(Expect.BEYOND, x -> x.months(0), x -> x.months(-1));
        t.stayAlike();
    }

    private static void months240AtMost() {
        Twins t = twins("2: n is 240 at most");
        t.refuses(Expect.BEYOND, x -> x.months(241), x -> x.months(1199), x -> x.months(MOST_INT));
        t.answers(240, x -> x.months(240));
        t.refuses(Expect.BEYOND, x -> x.months(241));
        t.answers(479, x -> x.months(239));
        t.stayAlike();
    }

    private static void monthIs1199AtMost() {
        Twins t = twins("2: THE MONTH is 1199 at most");
        t.given(x -> x.months(240), x -> x.months(240), x -> x.months(240), x -> x.months(239));
        t.answers(959, x -> x.count(0));
        t.given(x -> x.months(1));
        t.refuses(Expect.BEYOND, x -> x.months(240));
        t.answers(1198, x -> x.months(238));
        t.refuses(Expect.BEYOND, x -> x.months(2));
        t.answers(1199, x -> x.months(1));
        t.refuses(Expect.BEYOND, x -> x.months(1), x -> x.months(240));
        t.answers(1199, x -> x.count(0));
        t.stayAlike();
        Twins whole = twins("2: 240 up to 1199");
        whole.given(x -> x.months(240), x -> x.months(240), x -> x.months(240), x -> x.months(239));
        whole.answers(1199, x -> x.months(240));
        whole.stayAlike();
    }

    private static void monthsDontWrapAround() {
        Twins t = twins("2: THE MONTH and n don't wrap around");
        t.given(x -> x.months(200));
        t.refuses(Expect.BEYOND, x -> x.months(MOST_INT), x -> x.months(MOST_INT - 199), x -> x.months(LEAST_INT));
        t.answers(200, x -> x.count(0));
        t.stayAlike();
    }

    private static void refusedMonthsPayNobody() {
        Twins t = twins("2: refused months pay nobody");
        t.given(x -> x.child(0), x -> x.deposit(0, 0, 0, 100, 4), x -> x.fate(0, 2, 0), x -> x.income(50));
        t.refuses(Expect.BEYOND, x -> x.months(0), x -> x.months(241));
        t.answers(50, x -> x.purse(0));
        t.answers(0, x -> x.about(0, 8));
        t.answers(1, x -> x.months(1));
        t.answers(0, x -> x.purse(0));
        t.answers(50, x -> x.paid(4));
        t.stayAlike();
    }

    private static void decreeKinds() {
        Twins t = twins("3: there is no such kind");
        t.refuses(Expect.BEYOND, x -> x.decree(-1, 0, 20), x -> x.decree(6, 0, 20), x -> x.decree(LEAST_INT, 0, 20),
            x -> x.decree(MOST_INT, 0, 20));
        t.answers(1, x -> x.decree(0, 0, 20));
        t.answers(2, x -> x.decree(5, 0, 20));
        t.stayAlike();
    }

    private static void decreeFrom() {
        Twins t = twins("3: from is 0 .. 1199");
        t.refuses(Expect.BEYOND, x -> x.decree(4, -1, 5), x -> x.decree(4, 1200, 5), x -> x.decree(4, LEAST_INT, 5),
            x -> x.decree(4, MOST_INT, 5));
        t.answers(1, x -> x.decree(4, 0, 5));
        t.answers(2, x -> x.decree(4, 1199, 6));
        t.answers(5, x -> x.force(4, 0, 0));
        t.answers(5, x -> x.force(4, 1198, 0));
        t.answers(6, x -> x.force(4, 1199, 0));
        t.stayAlike();
    }

    private static void decreeValueLeast(int kind) {
        Twins t = twins("3: the least value of kind " + kind);
        t.given(x -> x.decree(kind, 0, MOST[kind] - 1));
        t.refuses(Expect.BEYOND, x -> x.decree(kind, 0, LEAST[kind] - 1), x -> x.decree(kind, 0, LEAST_INT));
        t.answers(MOST[kind] - 1, x -> x.force(kind, 0, 0));
        t.answers(2, x -> x.decree(kind, 0, LEAST[kind]));
        t.answers(LEAST[kind], x -> x.force(kind, 0, 0));
        t.stayAlike();
    }

    private static void decreeValueMost(int kind) {
        Twins t = twins("3: the greatest value of kind " + kind);
        t.refuses(Expect.BEYOND, x -> x.decree(kind, 0, MOST[kind] + 1), x -> x.decree(kind, 0, MOST_INT));
        t.answers(WITHOUT[kind], x -> x.force(kind, 0, 0));
        t.answers(1, x -> x.decree(kind, 0, MOST[kind]));
        t.answers(MOST[kind], x -> x.force(kind, 0, 0));
        t.stayAlike();
    }

    private static void sixtyDecrees() {
        Twins t = twins("3: at most 60 decrees");
        for (int i = 1; i <= 59; i++) {
            int nth = i;
            t.given(x -> x.decree(nth % 6, nth, 12));
        }
        t.answers(60, x -> x.decree(1, 900, 13));
        t.refuses(Expect.FULL, x -> x.decree(1, 900, 14), x -> x.decree(0, 0, 0), x -> x.decree(5, 1199, 240));
        t.answers(60, x -> x.count(1));
        t.answers(13, x -> x.force(1, 900, 0));
        t.given(x -> x.months(1));
        t.refuses(Expect.FULL, x -> x.decree(1, 900, 14));
        t.stayAlike();
    }

    private static void decreeBeyondAheadOfFull() {
        Twins t = twins("3: BEYOND ahead of FULL");
        for (int i = 0; i < 60; i++) {
            t.given(x -> x.decree(0, 0, 1));
        }
        t.refuses(Expect.BEYOND, x -> x.decree(6, 0, 1), x -> x.decree(0, 1200, 1), x -> x.decree(0, 0, 61));
        t.refuses(Expect.FULL, x -> x.decree(0, 0, 60));
        t.stayAlike();
    }

    private static void forceKinds() {
        Twins t = twins("4: there is no such kind");
        t.refuses(Expect.BEYOND, x -> x.force(-1, 0, 0), x -> x.force(6, 0, 0), x -> x.force(LEAST_INT, 0, 0),
            x -> x.force(MOST_INT, 0, 0));
        t.answers(0, x -> x.force(0, 0, 0));
        t.answers(180, x -> x.force(5, 0, 0));
        t.stayAlike();
    }

    private static void forceMonth() {
        Twins t = twins("4: month is 0 .. 1199");
        t.refuses(Expect.BEYOND, x -> x.force(1, -1, 0), x -> x.force(1, 1200, 0), x -> x.force(1, LEAST_INT, 0),
            x -> x.force(1, MOST_INT, 0));
        t.answers(500, x -> x.force(1, 0, 0));
        t.answers(500, x -> x.force(1, 1199, 0));
        t.stayAlike();
    }

    private static void forceKnown() {
        Twins t = twins("4: known is 0 .. 1199");
        t.refuses(Expect.BEYOND, x -> x.force(1, 0, -1), x -> x.force(1, 0, 1200), x -> x.force(1, 0, LEAST_INT),
            x -> x.force(1, 0, MOST_INT));
        t.answers(500, x -> x.force(1, 0, 0));
        t.answers(500, x -> x.force(1, 0, 1199));
        t.stayAlike();
    }

    private static void forceWithoutADecree() {
        Twins t = twins("4: without a decree");
        for (int i = 0; i <= 5; i++) {
            int kind = i;
            t.given(x -> x.decree(kind, 700, LEAST[kind] + 1));
            t.answers(WITHOUT[kind], x -> x.force(kind, 0, 0));
            t.answers(WITHOUT[kind], x -> x.force(kind, 699, 1199));
            t.answers(LEAST[kind] + 1, x -> x.force(kind, 700, 0));
        }
        t.stayAlike();
    }

    private static void forceFromItsMonthOn() {
        Twins t = twins("4: from m or ahead");
        t.given(x -> x.decree(2, 300, 7));
        t.answers(400, x -> x.force(2, 299, 0));
        t.answers(7, x -> x.force(2, 300, 0));
        t.answers(7, x -> x.force(2, 301, 0));
        t.stayAlike();
    }

    private static void forceKnownFromTheMonthItWasTold() {
        Twins t = twins("4: told in 0 .. k");
        t.given(x -> x.months(20), x -> x.decree(2, 0, 7));
        t.answers(400, x -> x.force(2, 1199, 19));
        t.answers(7, x -> x.force(2, 1199, 20));
        t.answers(7, x -> x.force(2, 0, 21));
        t.answers(7, x -> x.force(2, 0, 1199));
        t.stayAlike();
    }

    private static void forceOfTheLatestFrom() {
        Twins t = twins("4: the one with the latest from");
        t.given(x -> x.decree(3, 51, 100), x -> x.decree(3, 50, 200), x -> x.decree(3, 52, 300));
        t.answers(0, x -> x.force(3, 49, 0));
        t.answers(200, x -> x.force(3, 50, 0));
        t.answers(100, x -> x.force(3, 51, 0));
        t.answers(300, x -> x.force(3, 52, 0));
        t.stayAlike();
    }

    private static void forceOfSeveralTheOneToldLast() {
        Twins t = twins("4: of several the one told last");
        t.given(x -> x.decree(3, 50, 100), x -> x.decree(3, 50, 90));
        t.answers(90, x -> x.force(3, 50, 0));
        t.given(x -> x.months(1), x -> x.decree(3, 50, 95));
        t.answers(90, x -> x.force(3, 50, 0));
        t.answers(95, x -> x.force(3, 50, 1));
        t.stayAlike();
    }

    private static void forceOfADecreeToldForLongAgo() {
        Twins t = twins("4: told for long ago, or for the last month");
        t.given(x -> x.months(240), x -> x.months(240), x -> x.months(240), x -> x.months(240), x -> x.months(239));
        t.given(x -> x.decree(0, 0, 60));
        t.answers(0, x -> x.force(0, 0, 1198));
        t.answers(60, x -> x.force(0, 0, 1199));
        t.given(x -> x.decree(0, 1199, 59));
        t.answers(60, x -> x.force(0, 1198, 1199));
        t.answers(59, x -> x.force(0, 1199, 1199));
        t.stayAlike();
    }

    private static void rateYears() {
        Twins t = twins("5: years are 1 .. 20");
        t.refuses(Expect.BEYOND, x -> x.rate(0, 200), x -> x.rate(21, 200), x -> x.rate(-1, 200),
            x -> x.rate(LEAST_INT, 200), x -> x.rate(MOST_INT, 200));
        t.answers(100, x -> x.rate(1, 200));
        t.answers(100, x -> x.rate(20, 300));
        t.answers(200, x -> x.rate(1, 200));
        t.answers(300, x -> x.rate(20, 300));
        t.stayAlike();
    }

    private static void rateValues() {
        Twins t = twins("5: v is 100 .. 1000");
        t.given(x -> x.rate(7, 500));
        t.refuses(Expect.BEYOND, x -> x.rate(7, 99), x -> x.rate(7, 1001), x -> x.rate(7, 0),
            x -> x.rate(7, LEAST_INT), x -> x.rate(7, MOST_INT));
        t.answers(500, x -> x.rate(7, 100));
        t.answers(100, x -> x.rate(7, 1000));
        t.answers(1000, x -> x.rate(7, 1000));
        t.stayAlike();
    }

    private static void rateHoldsForDepositsFromThenOn() {
        Twins t = twins("5: it holds for deposits made from then on");
        t.given(x -> x.child(0), x -> x.deposit(0, 0, 0, 10, 0), x -> x.rate(15, 1000));
        t.given(x -> x.deposit(0, 0, 0, 10, 0));
        t.answers(10, x -> x.about(0, 4));
        t.answers(100, x -> x.about(1, 4));
        t.stayAlike();
    }
}
