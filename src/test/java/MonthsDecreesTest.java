/** Promises 1 to 5: a new object, months, decrees, what is in force, rates. */
public final class MonthsDecreesTest {
    private static final int[] LEAST = {0, 0, 0, 0, 0, 12};
    private static final int[] MOST = {60, 1000, 1000, 1000, 1000, 240};
    private static final int[] AT_FIRST = {0, 500, 400, 0, 0, 180};
    private static final Expect EXPECT = new Expect();

    public static void main(String[] args) {
        newObject();
        monthsGo();
        monthsBeyond();
        decreesTold();
        decreesBeyond();
        decreesFull();
        inForce();
        inForceByOrder();
        inForceBeyond();
        rates();
        ratesBeyond();
        EXPECT.end();
    }

    private static void newObject() {
        DowryFund x = new DowryFund();
        for (int what = 0; what <= 5; what++) {
            EXPECT.is("new count " + what, x.count(what), 0);
            EXPECT.is("new purse " + what, x.purse(what), 0);
            EXPECT.is("new force " + what, x.force(what, 0, 0), AT_FIRST[what]);
            EXPECT.is("new force at the end " + what, x.force(what, 1199, 1199), AT_FIRST[what]);
        }
        for (int holder = 0; holder <= 9; holder++) {
            EXPECT.is("new paid " + holder, x.paid(holder), 0);
        }
        for (int k = 1; k <= 5; k++) {
            EXPECT.is("new found " + k, x.found(k), 0);
        }
        for (int years = 1; years <= 20; years++) {
            EXPECT.is("new rate " + years, x.rate(years, 100), 100);
        }
        EXPECT.is("new left", x.left(0, 21), 1000000);
        EXPECT.is("new value", x.value(0, 21, 100000), 0);
        EXPECT.is("new foretold", x.foretold(0), 0);
        EXPECT.is("new check", x.check(), 0);
        EXPECT.is("no child yet", x.told(0, 0, false), Expect.BEYOND);
        EXPECT.is("no deposit yet", x.about(0, 0), Expect.BEYOND);
    }

    private static void monthsGo() {
        DowryFund x = new DowryFund();
        EXPECT.is("one month", x.months(1), 1);
        for (int i = 1; i <= 4; i++) {
            EXPECT.is("240 months", x.months(240), 1 + 240 * i);
        }
        EXPECT.is("one too many for the last month", x.months(239), Expect.BEYOND);
        EXPECT.is("nothing went", x.count(0), 961);
        EXPECT.is("up to the last month", x.months(238), 1199);
        EXPECT.is("none behind the last", x.months(1), Expect.BEYOND);
        EXPECT.is("the last month stands", x.count(0), 1199);
    }

    private static void monthsBeyond() {
        DowryFund x = new DowryFund();
        int[] wrong = {0, -1, 241, 1200, Integer.MAX_VALUE, Integer.MIN_VALUE};
        for (int n : wrong) {
            EXPECT.is("months " + n, x.months(n), Expect.BEYOND);
        }
        EXPECT.is("found", x.found(1), wrong.length);
        EXPECT.is("month", x.count(0), 0);
    }

    private static void decreesTold() {
        DowryFund x = new DowryFund();
        int told = 0;
        for (int kind = 0; kind <= 5; kind++) {
            EXPECT.is("least of " + kind, x.decree(kind, 0, LEAST[kind]), ++told);
            EXPECT.is("least in force " + kind, x.force(kind, 0, 0), LEAST[kind]);
            EXPECT.is("most of " + kind, x.decree(kind, 1199, MOST[kind]), ++told);
            EXPECT.is("most in force " + kind, x.force(kind, 1199, 0), MOST[kind]);
            EXPECT.is("not before " + kind, x.force(kind, 1198, 0), LEAST[kind]);
        }
        EXPECT.is("decrees", x.count(1), 12);
    }

    private static void decreesBeyond() {
        DowryFund x = new DowryFund();
        for (int kind = 0; kind <= 5; kind++) {
            EXPECT.is("below least of " + kind, x.decree(kind, 0, LEAST[kind] - 1), Expect.BEYOND);
            EXPECT.is("above most of " + kind, x.decree(kind, 0, MOST[kind] + 1), Expect.BEYOND);
            EXPECT.is("from -1 of " + kind, x.decree(kind, -1, MOST[kind]), Expect.BEYOND);
            EXPECT.is("from 1200 of " + kind, x.decree(kind, 1200, MOST[kind]), Expect.BEYOND);
            EXPECT.is("unchanged " + kind, x.force(kind, 1199, 1199), AT_FIRST[kind]);
        }
        EXPECT.is("kind -1", x.decree(-1, 0, 20), Expect.BEYOND);
        EXPECT.is("kind 6", x.decree(6, 0, 20), Expect.BEYOND);
        EXPECT.is("kind far off", x.decree(Integer.MIN_VALUE, 0, 20), Expect.BEYOND);
        EXPECT.is("none told", x.count(1), 0);
        EXPECT.is("found", x.found(1), 27);
    }

    private static void decreesFull() {
        DowryFund x = new DowryFund();
        for (int i = 1; i <= 60; i++) {
            EXPECT.is("decree " + i, x.decree(4, i, i), i);
        }
        EXPECT.is("61st", x.decree(4, 0, 7), Expect.FULL);
        EXPECT.is("beyond ahead of full", x.decree(4, 0, 1001), Expect.BEYOND);
        EXPECT.is("count", x.count(1), 60);
        EXPECT.is("not in force", x.force(4, 0, 0), 0);
        EXPECT.is("last in force", x.force(4, 1199, 0), 60);
        EXPECT.is("found full", x.found(4), 1);
    }

    private static void inForce() {
        DowryFund x = new DowryFund();
        x.decree(1, 100, 700);
        x.months(10);
        x.decree(1, 50, 600);
        EXPECT.is("before both", x.force(1, 49, 10), 500);
        EXPECT.is("from the earlier one on", x.force(1, 50, 10), 600);
        EXPECT.is("just before the later", x.force(1, 99, 10), 600);
        EXPECT.is("the latest from counts, not the latest told", x.force(1, 100, 10), 700);
        EXPECT.is("not known yet", x.force(1, 99, 9), 500);
        EXPECT.is("known from the start", x.force(1, 100, 0), 700);
        EXPECT.is("known later", x.force(1, 60, 1199), 600);
        EXPECT.is("other kinds stay", x.force(2, 200, 10), 400);
    }

    private static void inForceByOrder() {
        DowryFund x = new DowryFund();
        x.decree(3, 20, 1);
        x.decree(3, 20, 2);
        EXPECT.is("told last in the same month", x.force(3, 20, 0), 2);
        x.months(5);
        x.decree(3, 20, 3);
        EXPECT.is("told last in a later month", x.force(3, 20, 5), 3);
        EXPECT.is("as known before", x.force(3, 20, 4), 2);
        x.decree(3, 0, 4);
        x.decree(3, 0, 5);
        EXPECT.is("from month 0", x.force(3, 19, 5), 5);
        EXPECT.is("the later from stays", x.force(3, 20, 5), 3);
    }

    private static void inForceBeyond() {
        DowryFund x = new DowryFund();
        EXPECT.is("kind -1", x.force(-1, 0, 0), Expect.BEYOND);
        EXPECT.is("kind 6", x.force(6, 0, 0), Expect.BEYOND);
        EXPECT.is("month -1", x.force(0, -1, 0), Expect.BEYOND);
        EXPECT.is("month 1200", x.force(0, 1200, 0), Expect.BEYOND);
        EXPECT.is("known -1", x.force(0, 0, -1), Expect.BEYOND);
        EXPECT.is("known 1200", x.force(0, 0, 1200), Expect.BEYOND);
        EXPECT.is("found", x.found(1), 6);
    }

    private static void rates() {
        DowryFund x = new DowryFund();
        EXPECT.is("first", x.rate(1, 1000), 100);
        EXPECT.is("again", x.rate(1, 101), 1000);
        EXPECT.is("the same", x.rate(1, 101), 101);
        EXPECT.is("least", x.rate(1, 100), 101);
        EXPECT.is("last year", x.rate(20, 555), 100);
        EXPECT.is("last year again", x.rate(20, 100), 555);
        EXPECT.is("a neighbour stays", x.rate(19, 100), 100);
    }

    private static void ratesBeyond() {
        DowryFund x = new DowryFund();
        EXPECT.is("years 0", x.rate(0, 200), Expect.BEYOND);
        EXPECT.is("years 21", x.rate(21, 200), Expect.BEYOND);
        EXPECT.is("years far below", x.rate(Integer.MIN_VALUE, 200), Expect.BEYOND);
        EXPECT.is("v 99", x.rate(5, 99), Expect.BEYOND);
        EXPECT.is("v 1001", x.rate(5, 1001), Expect.BEYOND);
        EXPECT.is("nothing changed", x.rate(5, 200), 100);
        EXPECT.is("found", x.found(1), 5);
    }
}
