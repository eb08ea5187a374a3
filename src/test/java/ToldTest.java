/** Promises 22 to 25: numbers that wait, checks, counts and findings. */
public final class ToldTest {
    private static final Expect EXPECT = new Expect();

    public static void main(String[] args) {
        numbersWait();
        checked();
        checkedAsKnownNow();
        checkedWhenPaid();
        thirtyChecked();
        counted();
        findings();
        EXPECT.end();
    }

    private static DowryFund withDeposits(int n) {
        DowryFund x = new DowryFund();
        x.child(0);
        x.child(0);
        for (int i = 0; i < n; i++) {
            x.deposit(0, i % 2, 0, 100 + i, 0);
        }
        return x;
    }

    private static long check(DowryFund x, int... numbers) {
        for (int v : numbers) {
            x.tell(v);
        }
        return x.check();
    }

    private static void numbersWait() {
        DowryFund x = new DowryFund();
        for (int i = 1; i <= 30; i++) {
            EXPECT.is("tell " + i, x.tell(i % 2 == 0 ? Integer.MIN_VALUE : Integer.MAX_VALUE), i);
        }
        EXPECT.is("31st", x.tell(0), Expect.FULL);
        EXPECT.is("30 wait", x.count(5), 30);
        EXPECT.is("more than there are", x.check(), 99);
        EXPECT.is("none wait", x.count(5), 0);
        EXPECT.is("one waits", x.tell(0), 1);
        EXPECT.is("found", x.found(4), 1);
    }

    private static void checked() {
        DowryFund x = withDeposits(4);
        x.fate(0, 2, 9);
        EXPECT.is("all", check(x, 50, 0, 51, 0), 0);
        EXPECT.is("none wait", x.count(5), 0);
        EXPECT.is("the first isn't", check(x, 49, 0, 51, 0), 1);
        EXPECT.is("the second isn't", check(x, 50, 1, 51, 0), 2);
        EXPECT.is("the third isn't, nor the fourth", check(x, 50, 0, 50, 7), 3);
        EXPECT.is("the fourth isn't", check(x, 50, 0, 51, -1), 4);
        EXPECT.is("the fourth is missing", check(x, 50, 0, 51), 4);
        EXPECT.is("all are missing", check(x), 1);
        EXPECT.is("one more", check(x, 50, 0, 51, 0, 0), 99);
        EXPECT.is("one more, one wrong", check(x, 50, 0, 52, 0, 0), 3);
        EXPECT.is("none wait behind a wrong one", x.count(5), 0);
        EXPECT.is("none of all found", x.found(2), 0);
    }

    private static void checkedAsKnownNow() {
        DowryFund x = withDeposits(1);
        x.months(5);
        EXPECT.is("doesn't fall", check(x, 0), 0);
        x.fate(0, 2, 700);
        EXPECT.is("falls later, is known now", check(x, 50), 0);
        x.decree(1, 0, 10);
        EXPECT.is("by the decree", check(x, 1), 0);
        x.fate(0, 3, 0);
        EXPECT.is("undone", check(x, 1), 1);
        EXPECT.is("undone", check(x, 0), 0);
    }

    private static void checkedWhenPaid() {
        DowryFund x = withDeposits(1);
        x.fate(0, 2, 0);
        x.income(20);
        x.months(1);
        EXPECT.is("what was paid isn't taken off", check(x, 50), 0);
        x.income(50);
        x.months(1);
        EXPECT.is("paid out", x.about(0, 8), 1);
        EXPECT.is("paid out, due still", check(x, 50), 0);
    }

    private static void thirtyChecked() {
        DowryFund x = withDeposits(30);
        for (int i = 0; i < 30; i++) {
            x.tell(i == 29 ? 1 : 0);
        }
        EXPECT.is("the last isn't", x.check(), 30);
        for (int i = 0; i < 30; i++) {
            x.tell(0);
        }
        EXPECT.is("all thirty", x.check(), 0);
    }

    private static void counted() {
        DowryFund x = withDeposits(5);
        x.months(9);
        x.decree(0, 0, 1);
        x.decree(0, 0, 2);
        x.fate(0, 0, 100);
        x.fate(0, 3, 100);
        x.fate(1, 1, 100);
        x.tell(4);
        long[] want = {9, 2, 2, 3, 5, 1};
        for (int what = 0; what <= 5; what++) {
            EXPECT.is("count " + what, x.count(what), want[what]);
        }
        EXPECT.is("count -1", x.count(-1), Expect.BEYOND);
        EXPECT.is("count 6", x.count(6), Expect.BEYOND);
        EXPECT.is("found", x.found(1), 2);
    }

    private static void findings() {
        DowryFund x = withDeposits(2);
        x.about(0, 2);
        x.told(0, 0, true);
        x.as(0, 1);
        x.sell(0, 0);
        x.deposit(1, 1, 1, 5, 5);
        x.fate(0, 1, 50);
        x.deposit(0, 0, 0, 5, 5);
        EXPECT.is("beyond", x.found(1), 0);
        EXPECT.is("none", x.found(2), 2);
        EXPECT.is("state", x.found(3), 1);
        EXPECT.is("full", x.found(4), 0);
        EXPECT.is("kind", x.found(5), 3);
        EXPECT.is("found 0", x.found(0), Expect.BEYOND);
        EXPECT.is("counted, too", x.found(1), 1);
        EXPECT.is("found 6", x.found(6), Expect.BEYOND);
        EXPECT.is("found far below", x.found(Integer.MIN_VALUE), Expect.BEYOND);
        EXPECT.is("counted, too", x.found(1), 3);
        EXPECT.is("asking isn't counted", x.found(1), 3);
    }
}
