/** Promises 6 to 13: children and their fates, deposits, and who holds them. */
public final class ChildrenDepositsTest {
    private static final Expect EXPECT = new Expect();

    public static void main(String[] args) {
        childrenTold();
        childrenFull();
        fatesTold();
        birthsOfFirstAndLast();
        fatesBeyond();
        fatesFull();
        fateAsKnown();
        depositMade();
        dowryByTerm();
        dowryIsCut();
        termAsKnownWhenMade();
        depositFindings();
        depositFindingsInOrder();
        depositsFull();
        aboutBeyond();
        asKinds();
        sold();
        soldInTheSameMonth();
        soldTooOften(0);
        soldTooOften(11);
        sellFindingsInOrder();
        holderInMonths();
        EXPECT.end();
    }

    private static DowryFund withChildren(int n) {
        DowryFund x = new DowryFund();
        for (int i = 0; i < n; i++) {
            x.child(0);
        }
        return x;
    }

    private static void childrenTold() {
        DowryFund x = new DowryFund();
        EXPECT.is("born now", x.child(0), 0);
        EXPECT.is("not born yet", x.child(1), Expect.BEYOND);
        EXPECT.is("born before all", x.child(-1), Expect.BEYOND);
        x.months(7);
        EXPECT.is("born in this month", x.child(7), 1);
        EXPECT.is("born long ago", x.child(0), 2);
        EXPECT.is("born in the next", x.child(8), Expect.BEYOND);
        EXPECT.is("count", x.count(2), 3);
        EXPECT.is("found", x.found(1), 3);
    }

    private static void childrenFull() {
        DowryFund x = withChildren(29);
        EXPECT.is("30th", x.child(0), 29);
        EXPECT.is("31st", x.child(0), Expect.FULL);
        EXPECT.is("beyond ahead of full", x.child(1), Expect.BEYOND);
        EXPECT.is("count", x.count(2), 30);
    }

    private static void fatesTold() {
        DowryFund x = withChildren(1);
        x.months(10);
        x.child(6);
        EXPECT.is("weds", x.fate(0, 0, 0), 1);
        EXPECT.is("veiled in her birth's month", x.fate(1, 1, 6), 2);
        EXPECT.is("veiled before her birth", x.fate(1, 1, 5), Expect.BEYOND);
        EXPECT.is("dies in the last month", x.fate(1, 2, 1199), 3);
        EXPECT.is("none", x.fate(1, 3, 0), 4);
        EXPECT.is("none, in no month", x.fate(1, 3, Integer.MIN_VALUE), 5);
        EXPECT.is("none, too late", x.fate(1, 3, 1200), 6);
        EXPECT.is("count", x.count(3), 6);
    }

    private static void birthsOfFirstAndLast() {
        DowryFund x = new DowryFund();
        x.months(9);
        for (int i = 0; i < 30; i++) {
            x.child(i == 0 ? 5 : i == 29 ? 7 : 0);
        }
        EXPECT.is("before the first one's birth", x.fate(0, 2, 4), Expect.BEYOND);
        EXPECT.is("in its month", x.fate(0, 2, 5), 1);
        EXPECT.is("before the last one's birth", x.fate(29, 0, 6), Expect.BEYOND);
        EXPECT.is("in its month", x.fate(29, 0, 7), 2);
    }

    private static void fatesBeyond() {
        DowryFund x = withChildren(2);
        EXPECT.is("child -1", x.fate(-1, 0, 5), Expect.BEYOND);
        EXPECT.is("child 2", x.fate(2, 0, 5), Expect.BEYOND);
        EXPECT.is("child 2, none", x.fate(2, 3, 5), Expect.BEYOND);
        EXPECT.is("fate -1", x.fate(0, -1, 5), Expect.BEYOND);
        EXPECT.is("fate 4", x.fate(0, 4, 5), Expect.BEYOND);
        for (int fate = 0; fate <= 2; fate++) {
            EXPECT.is("month -1", x.fate(0, fate, -1), Expect.BEYOND);
            EXPECT.is("month 1200", x.fate(0, fate, 1200), Expect.BEYOND);
        }
        EXPECT.is("count", x.count(3), 0);
        EXPECT.is("found", x.found(1), 11);
    }

    private static void fatesFull() {
        DowryFund x = withChildren(1);
        for (int i = 1; i <= 90; i++) {
            EXPECT.is("fate " + i, x.fate(0, i % 4, i), i);
        }
        EXPECT.is("91st", x.fate(0, 0, 5), Expect.FULL);
        EXPECT.is("91st, none", x.fate(0, 3, 5), Expect.FULL);
        EXPECT.is("beyond ahead of full", x.fate(0, 4, 5), Expect.BEYOND);
        EXPECT.is("count", x.count(3), 90);
        EXPECT.is("the 90th holds", x.told(0, 0, true), 90);
        EXPECT.is("the 90th is a death", x.told(0, 0, false), 2);
    }

    private static void fateAsKnown() {
        DowryFund x = withChildren(2);
        EXPECT.is("none yet", x.told(0, 0, false), Expect.NONE);
        x.fate(0, 1, 30);
        EXPECT.is("in the same month", x.told(0, 0, false), 1);
        EXPECT.is("its month", x.told(0, 0, true), 30);
        EXPECT.is("another child", x.told(1, 0, true), Expect.NONE);
        x.months(4);
        x.fate(0, 2, 3);
        EXPECT.is("told last", x.told(0, 4, false), 2);
        EXPECT.is("its month then", x.told(0, 4, true), 3);
        EXPECT.is("as known before", x.told(0, 3, false), 1);
        x.months(1);
        x.fate(0, 3, 3);
        EXPECT.is("undone", x.told(0, 5, false), Expect.NONE);
        EXPECT.is("as known before it was undone", x.told(0, 4, false), 2);
        x.fate(0, 0, 9);
        EXPECT.is("told anew", x.told(0, 1199, false), 0);
        EXPECT.is("known -1", x.told(0, -1, false), Expect.BEYOND);
        EXPECT.is("known 1200", x.told(0, 1200, true), Expect.BEYOND);
        EXPECT.is("child -1", x.told(-1, 0, true), Expect.BEYOND);
        EXPECT.is("child 2", x.told(2, 0, false), Expect.BEYOND);
        EXPECT.is("found none", x.found(2), 3);
        EXPECT.is("found beyond", x.found(1), 4);
    }

    private static void depositMade() {
        DowryFund x = withChildren(3);
        x.months(6);
        EXPECT.is("deposit", x.deposit(0, 1, 77, 1, 0), 0);
        EXPECT.is("joint", x.deposit(1, 2, 0, 10000, 9), 1);
        EXPECT.is("convent", x.deposit(2, 0, -5, 33, 4), 2);
        long[][] want = {
            {0, 1, Expect.NONE, 1, 1, 186, 6, 0, 0},
            {1, 2, 0, 10000, 10000, 186, 6, 0, 0},
            {2, 0, Expect.NONE, 33, 33, 186, 6, 0, 0}};
        for (int d = 0; d < want.length; d++) {
            for (int what = 0; what <= 8; what++) {
                EXPECT.is("about " + d + " " + what, x.about(d, what), want[d][what]);
            }
        }
        EXPECT.is("found none", x.found(2), 2);
        EXPECT.is("count", x.count(4), 3);
        EXPECT.is("holder", x.holder(1, 6), 9);
    }

    private static void dowryByTerm() {
        DowryFund x = withChildren(1);
        x.rate(1, 200);
        x.rate(2, 300);
        x.rate(20, 400);
        x.decree(5, 0, 12);
        x.deposit(0, 0, 0, 10, 0);
        x.decree(5, 0, 23);
        x.deposit(0, 0, 0, 10, 0);
        x.decree(5, 0, 24);
        x.deposit(0, 0, 0, 10, 0);
        x.decree(5, 0, 240);
        x.deposit(0, 0, 0, 10, 0);
        x.decree(5, 0, 239);
        x.deposit(0, 0, 0, 10, 0);
        long[] dowries = {20, 20, 30, 40, 10};
        long[] ends = {12, 23, 24, 240, 239};
        for (int d = 0; d < dowries.length; d++) {
            EXPECT.is("dowry " + d, x.about(d, 4), dowries[d]);
            EXPECT.is("end " + d, x.about(d, 5), ends[d]);
        }
        x.rate(1, 1000);
        EXPECT.is("a later rate isn't for it", x.about(0, 4), 20);
    }

    private static void dowryIsCut() {
        DowryFund x = withChildren(1);
        x.rate(15, 199);
        x.deposit(0, 0, 0, 1, 0);
        x.deposit(0, 0, 0, 3, 0);
        x.rate(15, 1000);
        x.deposit(0, 0, 0, 10000, 0);
        EXPECT.is("cut", x.about(0, 4), 1);
        EXPECT.is("cut of 5.97", x.about(1, 4), 5);
        EXPECT.is("the greatest", x.about(2, 4), 100000);
    }

    private static void termAsKnownWhenMade() {
        DowryFund x = withChildren(1);
        x.decree(5, 3, 60);
        x.deposit(0, 0, 0, 5, 0);
        EXPECT.is("not in force yet", x.about(0, 5), 180);
        x.months(3);
        x.deposit(0, 0, 0, 5, 0);
        EXPECT.is("in force", x.about(1, 5), 63);
        x.decree(5, 0, 36);
        EXPECT.is("told late: END stays", x.about(0, 5), 180);
        x.deposit(0, 0, 0, 5, 0);
        EXPECT.is("the latest from", x.about(2, 5), 63);
        x.decree(5, 3, 36);
        x.deposit(0, 0, 0, 5, 0);
        EXPECT.is("told last", x.about(3, 5), 39);
    }

    private static void depositFindings() {
        DowryFund x = withChildren(2);
        EXPECT.is("kind -1", x.deposit(-1, 0, 1, 5, 0), Expect.BEYOND);
        EXPECT.is("kind 3", x.deposit(3, 0, 1, 5, 0), Expect.BEYOND);
        EXPECT.is("child -1", x.deposit(0, -1, 1, 5, 0), Expect.BEYOND);
        EXPECT.is("child 2", x.deposit(0, 2, 1, 5, 0), Expect.BEYOND);
        EXPECT.is("other -1", x.deposit(1, 0, -1, 5, 0), Expect.BEYOND);
        EXPECT.is("other 2", x.deposit(1, 0, 2, 5, 0), Expect.BEYOND);
        EXPECT.is("sum 0", x.deposit(0, 0, 1, 0, 0), Expect.BEYOND);
        EXPECT.is("sum 10001", x.deposit(0, 0, 1, 10001, 0), Expect.BEYOND);
        EXPECT.is("holder -1", x.deposit(0, 0, 1, 5, -1), Expect.BEYOND);
        EXPECT.is("holder 10", x.deposit(0, 0, 1, 5, 10), Expect.BEYOND);
        EXPECT.is("same", x.deposit(1, 1, 1, 5, 0), Expect.KIND);
        EXPECT.is("none made", x.count(4), 0);
        EXPECT.is("other isn't looked at", x.deposit(0, 1, 1, 5, 0), 0);
        EXPECT.is("nor of a convent", x.deposit(2, 1, 1, 5, 0), 1);
        x.fate(1, 2, 1199);
        EXPECT.is("fate of the child", x.deposit(0, 1, 0, 5, 0), Expect.STATE);
        EXPECT.is("fate of the first", x.deposit(1, 1, 0, 5, 0), Expect.STATE);
        EXPECT.is("fate of the other", x.deposit(1, 0, 1, 5, 0), Expect.STATE);
        EXPECT.is("other isn't looked at for its fate", x.deposit(0, 0, 1, 5, 0), 2);
        x.months(3);
        EXPECT.is("still", x.deposit(2, 1, 0, 5, 0), Expect.STATE);
        x.fate(1, 3, 0);
        EXPECT.is("undone", x.deposit(1, 0, 1, 5, 0), 3);
        x.fate(0, 0, 1);
        EXPECT.is("a fate of a month before counts, too", x.deposit(0, 0, 1, 5, 0), Expect.STATE);
    }

    private static void depositFindingsInOrder() {
        DowryFund x = withChildren(2);
        x.fate(0, 0, 5);
        EXPECT.is("beyond ahead of kind", x.deposit(1, 0, 0, 0, 0), Expect.BEYOND);
        EXPECT.is("kind ahead of state", x.deposit(1, 0, 0, 5, 0), Expect.KIND);
        for (int i = 0; i < 30; i++) {
            x.deposit(0, 1, 0, 5, 0);
        }
        EXPECT.is("state ahead of full", x.deposit(0, 0, 0, 5, 0), Expect.STATE);
        EXPECT.is("kind ahead of full", x.deposit(1, 1, 1, 5, 0), Expect.KIND);
        EXPECT.is("beyond ahead of full", x.deposit(1, 1, 1, 5, 10), Expect.BEYOND);
        EXPECT.is("full", x.deposit(0, 1, 0, 5, 0), Expect.FULL);
    }

    private static void depositsFull() {
        DowryFund x = withChildren(1);
        for (int i = 0; i < 30; i++) {
            EXPECT.is("deposit " + i, x.deposit(0, 0, 0, i + 1, 0), i);
        }
        EXPECT.is("31st", x.deposit(0, 0, 0, 5, 0), Expect.FULL);
        EXPECT.is("count", x.count(4), 30);
        EXPECT.is("the last", x.about(29, 3), 30);
        EXPECT.is("no more", x.about(30, 3), Expect.BEYOND);
    }

    private static void aboutBeyond() {
        DowryFund x = withChildren(1);
        x.deposit(0, 0, 0, 5, 0);
        EXPECT.is("deposit -1", x.about(-1, 0), Expect.BEYOND);
        EXPECT.is("deposit 1", x.about(1, 2), Expect.BEYOND);
        EXPECT.is("what -1", x.about(0, -1), Expect.BEYOND);
        EXPECT.is("what 9", x.about(0, 9), Expect.BEYOND);
        EXPECT.is("found", x.found(1), 4);
        EXPECT.is("found none", x.found(2), 0);
    }

    private static void asKinds() {
        DowryFund x = withChildren(2);
        x.deposit(0, 0, 0, 5, 0);
        x.deposit(1, 0, 1, 6, 0);
        x.deposit(2, 0, 0, 7, 0);
        long[][] want = {{5, Expect.KIND, Expect.KIND}, {6, 6, Expect.KIND}, {7, Expect.KIND, 7}};
        for (int d = 0; d < 3; d++) {
            for (int kind = 0; kind < 3; kind++) {
                EXPECT.is("as " + d + " " + kind, x.as(d, kind), want[d][kind]);
            }
        }
        EXPECT.is("kind -1", x.as(0, -1), Expect.BEYOND);
        EXPECT.is("kind 3", x.as(0, 3), Expect.BEYOND);
        EXPECT.is("deposit -1", x.as(-1, 0), Expect.BEYOND);
        EXPECT.is("deposit 3", x.as(3, 0), Expect.BEYOND);
        EXPECT.is("found kind", x.found(5), 4);
    }

    private static void sold() {
        DowryFund x = withChildren(1);
        x.months(2);
        x.deposit(0, 0, 0, 5, 3);
        x.months(2);
        EXPECT.is("sold", x.sell(0, 4), 3);
        x.months(1);
        EXPECT.is("sold again", x.sell(0, 3), 4);
        EXPECT.is("before it was made", x.holder(0, 1), Expect.NONE);
        EXPECT.is("at first", x.holder(0, 2), 3);
        EXPECT.is("before the sale", x.holder(0, 3), 3);
        EXPECT.is("from the sale on", x.holder(0, 4), 4);
        EXPECT.is("then", x.holder(0, 5), 3);
        EXPECT.is("later", x.holder(0, 1199), 3);
    }

    private static void soldInTheSameMonth() {
        DowryFund x = withChildren(1);
        x.deposit(0, 0, 0, 5, 3);
        EXPECT.is("in the month it was made", x.sell(0, 4), 3);
        EXPECT.is("once more", x.sell(0, 5), 4);
        EXPECT.is("in place of the first", x.holder(0, 0), 5);
        x.months(1);
        EXPECT.is("in another", x.sell(0, 6), 5);
        EXPECT.is("in the same again", x.sell(0, 7), 6);
        EXPECT.is("who came in this month has it", x.sell(0, 7), Expect.KIND);
        EXPECT.is("back", x.sell(0, 5), 7);
        EXPECT.is("in place of who came", x.holder(0, 1), 5);
        EXPECT.is("the month before stays", x.holder(0, 0), 5);
    }

    private static void soldTooOften(int made) {
        DowryFund x = withChildren(1);
        x.months(made);
        x.deposit(0, 0, 0, 5, 0);
        EXPECT.is("the month it was made isn't counted", x.sell(0, 9), 0);
        for (int i = 1; i <= 6; i++) {
            x.months(1);
            EXPECT.is("sold in month " + i, x.sell(0, i), i == 1 ? 9 : i - 1);
        }
        EXPECT.is("in the sixth again", x.sell(0, 8), 6);
        EXPECT.is("and again", x.sell(0, 7), 8);
        x.months(1);
        EXPECT.is("in the seventh", x.sell(0, 8), Expect.FULL);
        EXPECT.is("stays", x.holder(0, made + 7), 7);
        EXPECT.is("in the sixth", x.holder(0, made + 6), 7);
        EXPECT.is("in the fifth", x.holder(0, made + 5), 5);
        EXPECT.is("in the first", x.holder(0, made + 1), 1);
        EXPECT.is("when it was made", x.holder(0, made), 9);
    }

    private static void sellFindingsInOrder() {
        DowryFund x = withChildren(1);
        x.deposit(0, 0, 0, 5, 0);
        x.deposit(0, 0, 0, 5, 0);
        EXPECT.is("deposit -1", x.sell(-1, 0), Expect.BEYOND);
        EXPECT.is("deposit 2", x.sell(2, 1), Expect.BEYOND);
        EXPECT.is("holder -1", x.sell(0, -1), Expect.BEYOND);
        EXPECT.is("holder 10", x.sell(0, 10), Expect.BEYOND);
        EXPECT.is("has it", x.sell(0, 0), Expect.KIND);
        for (int i = 1; i <= 6; i++) {
            x.months(1);
            x.sell(0, i);
        }
        x.months(1);
        EXPECT.is("kind ahead of full", x.sell(0, 6), Expect.KIND);
        EXPECT.is("full", x.sell(0, 5), Expect.FULL);
        x.fate(0, 0, 7);
        x.months(1);
        EXPECT.is("owed 0: paid out", x.about(0, 8), 1);
        EXPECT.is("state ahead of kind", x.sell(0, 6), Expect.STATE);
        EXPECT.is("state ahead of full", x.sell(0, 5), Expect.STATE);
        EXPECT.is("beyond ahead of state", x.sell(0, 10), Expect.BEYOND);
    }

    private static void holderInMonths() {
        DowryFund x = withChildren(1);
        x.months(3);
        x.deposit(0, 0, 0, 5, 2);
        EXPECT.is("deposit -1", x.holder(-1, 3), Expect.BEYOND);
        EXPECT.is("deposit 1", x.holder(1, 3), Expect.BEYOND);
        EXPECT.is("month -1", x.holder(0, -1), Expect.BEYOND);
        EXPECT.is("month 1200", x.holder(0, 1200), Expect.BEYOND);
        EXPECT.is("not made yet", x.holder(0, 2), Expect.NONE);
        EXPECT.is("made", x.holder(0, 3), 2);
        EXPECT.is("last month", x.holder(0, 1199), 2);
    }
}
