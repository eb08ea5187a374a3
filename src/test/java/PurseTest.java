/** Promises 16 to 18, and what promise 2 does to the purse: income, rolls, payments. */
public final class PurseTest {
    private static final Expect EXPECT = new Expect();

    public static void main(String[] args) {
        income();
        incomeFull();
        paidWhole();
        paidByParts();
        leftOverToTheLeast();
        leftOverPaysOut();
        owedNothing();
        emptyPurse();
        arrears();
        termsBetterLater();
        termsWorseLater();
        undoneInBetween();
        paidOutStays();
        paidToHolderOfTheMonth();
        severalMonthsAtOnce();
        wrongArguments();
        EXPECT.end();
    }

    /** One child who dies in a month, deposits of these sums by holders 0, 1, ..: all come back. */
    private static DowryFund withSums(int month, int... sums) {
        DowryFund x = new DowryFund();
        x.child(0);
        x.decree(1, 0, 1000);
        for (int i = 0; i < sums.length; i++) {
            x.deposit(0, 0, 0, sums[i], i % 10);
        }
        x.fate(0, 2, month);
        return x;
    }

    private static void purseIs(String text, DowryFund x, long... want) {
        for (int what = 0; what <= 5; what++) {
            EXPECT.is(text + ": purse " + what, x.purse(what), want[what]);
        }
    }

    private static void depositIs(String text, DowryFund x, int deposit, long received, long out) {
        EXPECT.is(text + ": received " + deposit, x.about(deposit, 7), received);
        EXPECT.is(text + ": paid out " + deposit, x.about(deposit, 8), out);
    }

    private static void income() {
        DowryFund x = new DowryFund();
        EXPECT.is("0", x.income(0), 0);
        EXPECT.is("1", x.income(1), 1);
        EXPECT.is("most", x.income(1000000), 1000001);
        EXPECT.is("-1", x.income(-1), Expect.BEYOND);
        EXPECT.is("1000001", x.income(1000001), Expect.BEYOND);
        EXPECT.is("far below", x.income(Integer.MIN_VALUE), Expect.BEYOND);
        purseIs("income", x, 1000001, 1000001, 0, 0, 0, 0);
        EXPECT.is("found", x.found(1), 3);
    }

    /** Only behind more calls than the document promises for can the purse be full. */
    private static void incomeFull() {
        DowryFund x = new DowryFund();
        for (int i = 0; i < 999; i++) {
            x.income(1000000);
        }
        x.income(999999);
        EXPECT.is("one above", x.income(2), Expect.FULL);
        EXPECT.is("beyond ahead of full", x.income(1000001), Expect.BEYOND);
        EXPECT.is("just full", x.income(1), 1000000000);
        EXPECT.is("full", x.income(1), Expect.FULL);
        purseIs("full", x, 1000000000, 1000000000, 0, 0, 0, 0);
    }

    private static void paidWhole() {
        DowryFund x = withSums(3, 100, 200);
        x.income(300);
        x.months(3);
        purseIs("not due yet", x, 300, 300, 0, 0, 0, 0);
        x.months(1);
        purseIs("paid", x, 0, 300, 300, 0, 2, 2);
        depositIs("paid", x, 0, 100, 1);
        depositIs("paid", x, 1, 200, 1);
        EXPECT.is("holder 0", x.paid(0), 100);
        EXPECT.is("holder 1", x.paid(1), 200);
        EXPECT.is("holder 2", x.paid(2), 0);
        x.months(1);
        purseIs("none on the next roll", x, 0, 300, 300, 0, 0, 2);
    }

    private static void paidByParts() {
        DowryFund x = withSums(0, 100, 200);
        x.income(150);
        x.months(1);
        purseIs("parts", x, 0, 150, 150, 150, 2, 0);
        depositIs("parts", x, 0, 50, 0);
        depositIs("parts", x, 1, 100, 0);
        x.income(149);
        x.months(1);
        purseIs("more parts", x, 0, 299, 299, 1, 2, 1);
        depositIs("more parts", x, 0, 100, 1);
        depositIs("more parts", x, 1, 199, 0);
        x.income(5);
        x.months(1);
        purseIs("the rest", x, 4, 304, 300, 0, 1, 2);
        depositIs("the rest", x, 1, 200, 1);
    }

    private static void leftOverToTheLeast() {
        DowryFund x = withSums(0, 10, 10, 10, 10);
        x.income(7);
        x.months(1);
        depositIs("7 of 40", x, 0, 2, 0);
        depositIs("7 of 40", x, 1, 2, 0);
        depositIs("7 of 40", x, 2, 2, 0);
        depositIs("7 of 40", x, 3, 1, 0);
        purseIs("7 of 40", x, 0, 7, 7, 33, 4, 0);
    }

    private static void leftOverPaysOut() {
        DowryFund x = withSums(0, 1, 1, 1000);
        x.income(2);
        x.months(1);
        depositIs("2 of 1002", x, 0, 1, 1);
        depositIs("2 of 1002", x, 1, 0, 0);
        depositIs("2 of 1002", x, 2, 1, 0);
        purseIs("2 of 1002", x, 0, 2, 2, 1000, 3, 1);
    }

    private static void owedNothing() {
        DowryFund x = withSums(0, 10, 10);
        x.decree(1, 0, 0);
        x.months(1);
        purseIs("owed 0", x, 0, 0, 0, 0, 2, 2);
        depositIs("owed 0", x, 0, 0, 1);
        x.decree(1, 0, 1000);
        x.income(50);
        x.months(1);
        purseIs("stays paid out", x, 50, 50, 0, 0, 0, 2);
    }

    private static void emptyPurse() {
        DowryFund x = withSums(0, 10, 5);
        x.months(1);
        purseIs("empty", x, 0, 0, 0, 15, 2, 0);
        x.months(240);
        purseIs("empty still", x, 0, 0, 0, 15, 2, 0);
    }

    private static void arrears() {
        DowryFund x = new DowryFund();
        x.child(0);
        x.child(0);
        x.decree(1, 0, 1000);
        x.deposit(0, 0, 0, 100, 0);
        x.deposit(0, 1, 0, 100, 1);
        x.fate(0, 2, 1);
        x.fate(1, 2, 2);
        x.income(60);
        x.months(2);
        purseIs("the first alone", x, 0, 60, 60, 40, 1, 0);
        x.income(70);
        x.months(1);
        purseIs("both", x, 0, 130, 130, 70, 2, 0);
        depositIs("both", x, 0, 80, 0);
        depositIs("both", x, 1, 50, 0);
    }

    private static void termsBetterLater() {
        DowryFund x = withSums(0, 100);
        x.decree(1, 0, 400);
        x.income(30);
        x.months(1);
        depositIs("30 of 40", x, 0, 30, 0);
        x.decree(1, 0, 900);
        x.income(1000);
        x.months(1);
        depositIs("90", x, 0, 90, 1);
        purseIs("90", x, 940, 1030, 90, 0, 1, 1);
    }

    private static void termsWorseLater() {
        DowryFund x = withSums(0, 100, 10);
        x.income(66);
        x.months(1);
        depositIs("66 of 110", x, 0, 60, 0);
        depositIs("66 of 110", x, 1, 6, 0);
        x.decree(1, 0, 500);
        x.months(1);
        depositIs("50 were due", x, 0, 60, 1);
        depositIs("5 were due", x, 1, 6, 1);
        purseIs("owed 0 at least", x, 0, 66, 66, 0, 2, 2);
    }

    private static void undoneInBetween() {
        DowryFund x = withSums(0, 100);
        x.income(30);
        x.months(1);
        x.fate(0, 3, 0);
        x.income(10);
        x.months(1);
        purseIs("undone", x, 10, 40, 30, 0, 0, 0);
        x.fate(0, 0, 5);
        x.months(4);
        purseIs("weds early, in month 5", x, 10, 40, 30, 0, 1, 1);
        depositIs("weds early", x, 0, 30, 1);
    }

    private static void paidOutStays() {
        DowryFund x = withSums(0, 100);
        x.income(500);
        x.months(1);
        depositIs("paid", x, 0, 100, 1);
        x.fate(0, 3, 0);
        x.months(1);
        x.fate(0, 0, 200);
        x.months(220);
        depositIs("paid out stays", x, 0, 100, 1);
        purseIs("paid out stays", x, 400, 500, 100, 0, 0, 1);
    }

    private static void paidToHolderOfTheMonth() {
        DowryFund x = withSums(2, 100);
        x.income(30);
        x.months(3);
        EXPECT.is("to the first", x.paid(0), 30);
        x.sell(0, 8);
        x.income(20);
        x.months(1);
        x.sell(0, 9);
        x.sell(0, 7);
        x.income(100);
        x.months(1);
        EXPECT.is("the first", x.paid(0), 30);
        EXPECT.is("the second", x.paid(8), 20);
        EXPECT.is("in place of", x.paid(9), 0);
        EXPECT.is("the last", x.paid(7), 50);
        EXPECT.is("received", x.about(0, 7), 100);
    }

    private static void severalMonthsAtOnce() {
        DowryFund x = new DowryFund();
        x.decree(1, 0, 1000);
        for (int i = 0; i < 3; i++) {
            x.child(0);
            x.deposit(0, i, 0, 10, 5);
            x.fate(i, 2, 4 * i);
        }
        x.income(25);
        x.months(12);
        purseIs("5 for the third", x, 0, 25, 25, 5, 1, 2);
        depositIs("third", x, 2, 5, 0);
        EXPECT.is("one holder of all", x.paid(5), 25);
    }

    private static void wrongArguments() {
        DowryFund x = new DowryFund();
        EXPECT.is("purse -1", x.purse(-1), Expect.BEYOND);
        EXPECT.is("purse 6", x.purse(6), Expect.BEYOND);
        EXPECT.is("paid -1", x.paid(-1), Expect.BEYOND);
        EXPECT.is("paid 10", x.paid(10), Expect.BEYOND);
        EXPECT.is("found", x.found(1), 4);
    }
}
