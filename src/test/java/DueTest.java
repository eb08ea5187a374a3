/** Promises 14 and 15: what is due, as known in a month, and what is foretold. */
public final class DueTest {
    private static final Expect EXPECT = new Expect();

    public static void main(String[] args) {
        weds();
        wedsEarly();
        veiled();
        dies();
        cutIsTaken();
        delayed();
        delayedBehindTheLastMonth();
        asKnown();
        knownBeforeItWasMade();
        decreesAsKnown();
        fateBeforeItWasMade();
        jointFates();
        jointFateBeforeItWasMade();
        dueBeyond();
        foretold();
        foretoldAsKnown();
        EXPECT.end();
    }

    /** Two children; rate 250 for 15 years; deposits of 101: 0 DEPOSIT, 1 CONVENT, 2 JOINT. */
    private static DowryFund withDeposits() {
        DowryFund x = new DowryFund();
        x.child(0);
        x.child(0);
        x.rate(15, 250);
        x.deposit(0, 0, 0, 101, 1);
        x.deposit(2, 0, 0, 101, 2);
        x.deposit(1, 0, 1, 101, 3);
        return x;
    }

    private static void dueIs(DowryFund x, int deposit, int known, long... want) {
        for (int what = 0; what <= 3; what++) {
            String text = "due " + deposit + " known " + known + " what " + what;
            EXPECT.is(text, x.due(deposit, known, what), want[what]);
        }
    }

    private static void dueIsNone(DowryFund x, int deposit, int known) {
        dueIs(x, deposit, known, Expect.NONE, Expect.NONE, Expect.NONE, Expect.NONE);
    }

    private static void weds() {
        DowryFund x = withDeposits();
        dueIsNone(x, 0, 0);
        x.fate(0, 0, 180);
        dueIs(x, 0, 0, 180, 180, 252, 0);
        dueIs(x, 1, 0, 180, 180, 252, 0);
        dueIs(x, 2, 1199, 180, 180, 252, 0);
        x.fate(0, 0, 181);
        dueIs(x, 0, 0, 181, 181, 252, 0);
    }

    private static void wedsEarly() {
        DowryFund x = withDeposits();
        x.fate(0, 0, 179);
        dueIs(x, 0, 0, 179, 179, 0, 0);
        x.decree(3, 179, 333);
        dueIs(x, 0, 0, 179, 179, 83, 0);
        x.decree(3, 180, 999);
        dueIs(x, 0, 0, 179, 179, 83, 0);
        x.decree(0, 0, 5);
        dueIs(x, 2, 0, 179, 184, 83, 0);
        x.fate(0, 0, 180);
        dueIs(x, 0, 0, 180, 185, 252, 0);
    }

    private static void veiled() {
        DowryFund x = withDeposits();
        x.decree(3, 0, 10);
        x.fate(0, 1, 5);
        dueIs(x, 0, 0, 5, 5, 100, 1);
        dueIs(x, 1, 0, 5, 5, 2, 1);
        dueIs(x, 2, 0, 5, 5, 100, 1);
        x.decree(2, 5, 999);
        dueIs(x, 0, 0, 5, 5, 251, 1);
        x.decree(2, 6, 1);
        dueIs(x, 2, 0, 5, 5, 251, 1);
        x.fate(0, 1, 180);
        dueIs(x, 0, 0, 180, 180, 0, 1);
        dueIs(x, 1, 0, 180, 180, 252, 1);
        dueIs(x, 2, 0, 180, 180, 0, 1);
    }

    private static void dies() {
        DowryFund x = withDeposits();
        x.fate(0, 2, 200);
        dueIs(x, 0, 0, 200, 200, 50, 2);
        dueIs(x, 1, 0, 200, 200, 50, 2);
        dueIs(x, 2, 0, 200, 200, 50, 2);
        x.decree(1, 200, 1000);
        dueIs(x, 0, 0, 200, 200, 101, 2);
        x.decree(1, 201, 1);
        dueIs(x, 1, 0, 200, 200, 101, 2);
        x.decree(1, 200, 0);
        dueIs(x, 2, 0, 200, 200, 0, 2);
    }

    private static void cutIsTaken() {
        DowryFund x = withDeposits();
        x.fate(0, 0, 180);
        x.decree(4, 180, 1);
        dueIs(x, 0, 0, 180, 180, 252, 0);
        x.decree(4, 180, 4);
        dueIs(x, 0, 0, 180, 180, 251, 0);
        x.decree(4, 180, 333);
        dueIs(x, 0, 0, 180, 180, 169, 0);
        x.decree(0, 0, 10);
        dueIs(x, 0, 0, 180, 190, 169, 0);
        x.decree(4, 190, 500);
        dueIs(x, 0, 0, 180, 190, 126, 0);
        x.decree(4, 191, 900);
        dueIs(x, 0, 0, 180, 190, 126, 0);
        x.decree(4, 190, 1000);
        dueIs(x, 0, 0, 180, 190, 0, 0);
    }

    private static void delayed() {
        DowryFund x = withDeposits();
        x.fate(0, 0, 180);
        x.decree(0, 181, 60);
        dueIs(x, 0, 0, 180, 180, 252, 0);
        x.decree(0, 180, 7);
        dueIs(x, 0, 0, 180, 187, 252, 0);
        x.fate(0, 2, 181);
        dueIs(x, 0, 0, 181, 241, 50, 2);
    }

    private static void delayedBehindTheLastMonth() {
        DowryFund x = withDeposits();
        x.fate(0, 0, 1199);
        x.decree(0, 0, 60);
        x.decree(4, 1199, 100);
        dueIs(x, 0, 1199, 1199, 1259, 227, 0);
        EXPECT.is("foretold of the last month", x.foretold(1199), 0);
    }

    private static void asKnown() {
        DowryFund x = withDeposits();
        x.months(5);
        x.deposit(0, 1, 0, 10, 0);
        x.months(5);
        x.fate(0, 2, 3);
        x.fate(1, 2, 6);
        dueIsNone(x, 0, 9);
        dueIs(x, 0, 10, 3, 3, 50, 2);
        x.months(5);
        x.fate(0, 3, 0);
        dueIs(x, 0, 14, 3, 3, 50, 2);
        dueIsNone(x, 0, 15);
        dueIs(x, 3, 10, 6, 6, 5, 2);
        dueIsNone(x, 3, 9);
        dueIsNone(x, 3, 4);
    }

    private static void knownBeforeItWasMade() {
        DowryFund x = withDeposits();
        x.fate(0, 2, 100);
        x.months(1);
        x.fate(0, 3, 0);
        x.months(1);
        x.deposit(0, 0, 0, 40, 0);
        EXPECT.is("foretold without it", x.foretold(100), 0);
        dueIs(x, 0, 0, 100, 100, 50, 2);
        dueIsNone(x, 3, 0);
        x.fate(0, 2, 100);
        dueIsNone(x, 3, 0);
        dueIsNone(x, 3, 1);
        dueIs(x, 3, 2, 100, 100, 20, 2);
    }

    private static void decreesAsKnown() {
        DowryFund x = withDeposits();
        x.fate(0, 0, 100);
        x.months(1);
        x.decree(3, 0, 500);
        x.months(1);
        x.decree(0, 0, 9);
        x.months(1);
        x.decree(4, 100, 500);
        dueIs(x, 0, 0, 100, 100, 0, 0);
        dueIs(x, 0, 1, 100, 100, 126, 0);
        dueIs(x, 0, 2, 100, 109, 126, 0);
        dueIs(x, 0, 3, 100, 109, 63, 0);
        dueIs(x, 0, 1199, 100, 109, 63, 0);
    }

    private static void fateBeforeItWasMade() {
        DowryFund x = withDeposits();
        x.months(8);
        x.deposit(0, 0, 0, 10, 0);
        x.fate(0, 2, 7);
        dueIs(x, 0, 8, 7, 7, 50, 2);
        dueIsNone(x, 3, 8);
        x.fate(0, 2, 8);
        dueIs(x, 3, 8, 8, 8, 5, 2);
        dueIsNone(x, 3, 7);
    }

    private static void jointFates() {
        DowryFund x = withDeposits();
        x.deposit(1, 1, 0, 101, 3);
        x.fate(1, 2, 40);
        dueIs(x, 2, 0, 40, 40, 50, 2);
        dueIs(x, 3, 0, 40, 40, 50, 2);
        dueIsNone(x, 0, 0);
        x.fate(0, 1, 41);
        dueIs(x, 2, 0, 40, 40, 50, 2);
        dueIs(x, 3, 0, 40, 40, 50, 2);
        x.fate(0, 1, 40);
        dueIs(x, 2, 0, 40, 40, 100, 1);
        dueIs(x, 3, 0, 40, 40, 50, 2);
        x.fate(0, 1, 39);
        dueIs(x, 3, 0, 39, 39, 100, 1);
        x.fate(0, 0, 200);
        dueIs(x, 2, 0, 200, 200, 252, 0);
        dueIs(x, 3, 0, 200, 200, 252, 0);
        x.fate(1, 0, 190);
        dueIs(x, 2, 0, 190, 190, 252, 0);
        dueIs(x, 3, 0, 190, 190, 252, 0);
        x.fate(1, 0, 210);
        dueIs(x, 2, 0, 200, 200, 252, 0);
        dueIs(x, 3, 0, 200, 200, 252, 0);
        x.fate(0, 3, 0);
        dueIs(x, 2, 0, 210, 210, 252, 0);
    }

    private static void jointFateBeforeItWasMade() {
        DowryFund x = withDeposits();
        x.months(8);
        x.deposit(1, 0, 1, 100, 3);
        x.fate(0, 0, 7);
        x.fate(1, 2, 300);
        dueIs(x, 2, 8, 7, 7, 0, 0);
        dueIs(x, 3, 8, 300, 300, 50, 2);
        x.fate(1, 2, 6);
        dueIsNone(x, 3, 8);
        x.fate(0, 0, 8);
        dueIs(x, 3, 8, 8, 8, 0, 0);
    }

    private static void dueBeyond() {
        DowryFund x = withDeposits();
        EXPECT.is("deposit -1", x.due(-1, 0, 0), Expect.BEYOND);
        EXPECT.is("deposit 3", x.due(3, 0, 0), Expect.BEYOND);
        EXPECT.is("known -1", x.due(0, -1, 0), Expect.BEYOND);
        EXPECT.is("known 1200", x.due(0, 1200, 0), Expect.BEYOND);
        EXPECT.is("what -1", x.due(0, 0, -1), Expect.BEYOND);
        EXPECT.is("what 4", x.due(0, 0, 4), Expect.BEYOND);
        EXPECT.is("found beyond", x.found(1), 6);
        EXPECT.is("none", x.due(0, 0, 0), Expect.NONE);
        EXPECT.is("found none", x.found(2), 1);
    }

    private static void foretold() {
        DowryFund x = withDeposits();
        x.fate(0, 0, 180);
        EXPECT.is("month before", x.foretold(179), 0);
        EXPECT.is("all three", x.foretold(180), 756);
        EXPECT.is("month behind", x.foretold(181), 0);
        x.decree(0, 0, 2);
        EXPECT.is("delayed", x.foretold(180), 0);
        EXPECT.is("then", x.foretold(182), 756);
        x.fate(1, 0, 181);
        EXPECT.is("the joint one by the earlier wedding", x.foretold(183), 0);
        x.fate(0, 2, 180);
        EXPECT.is("two by a death", x.foretold(182), 100);
        EXPECT.is("the joint one by a wedding", x.foretold(183), 252);
        EXPECT.is("month -1", x.foretold(-1), Expect.BEYOND);
        EXPECT.is("month 1200", x.foretold(1200), Expect.BEYOND);
        EXPECT.is("found", x.found(1), 2);
    }

    private static void foretoldAsKnown() {
        DowryFund x = withDeposits();
        x.months(10);
        x.fate(0, 2, 9);
        EXPECT.is("told too late to be known in its month", x.foretold(9), 0);
        x.fate(0, 2, 10);
        EXPECT.is("known in its month", x.foretold(10), 150);
        x.income(1000);
        x.months(1);
        EXPECT.is("paid out", x.purse(5), 3);
        EXPECT.is("what was paid out is due still", x.foretold(10), 150);
        x.fate(0, 2, 30);
        EXPECT.is("as known then", x.foretold(10), 150);
        EXPECT.is("as known later", x.foretold(30), 150);
    }
}
