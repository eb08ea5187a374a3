/** Promises 14 and 15, each sentence that names a boundary: the last that is allowed, the first that isn't. */
public final class EdgesOfDuesTest {
    private static final int LEAST_INT = Integer.MIN_VALUE;
    private static final int MOST_INT = Integer.MAX_VALUE;
    private static final int PLAIN = 0;
    private static final int JOINT = 1;
    private static final int CONVENT = 2;
    private static final Expect EXPECT = new Expect();

    public static void main(String[] args) {
        dueOfNoSuchDeposit();
        dueKnownInNoMonth();
        dueOfAnotherWhat();
        dueOfOneNotMadeByThen();
        dueOfOneThatDoesNotFall();
        dueOfOneWhoseFateIsNotKnown();
        dueBeyondAheadOfNone();
        fateBeforeItWasMade();
        wedsAtTheEnd();
        wedsBeforeTheEnd(0, 0);
        wedsBeforeTheEnd(1, 0);
        wedsBeforeTheEnd(999, 252);
        wedsBeforeTheEnd(1000, 253);
        conventAsIfSheWed();
        veiled(0, 0);
        veiled(1, 0);
        veiled(4, 1);
        veiled(1000, 253);
        dies(0, 0);
        dies(9, 0);
        dies(10, 1);
        dies(1000, 101);
        cut(0, 253);
        cut(3, 253);
        cut(4, 252);
        cut(999, 1);
        cut(1000, 0);
        earlyInForceForTheFatesMonth();
        veilInForceForTheFatesMonth();
        deathInForceForTheFatesMonth();
        delayInForceForTheFatesMonth();
        cutInForceForTheMonthItIsDue();
        delayOf60();
        dueBehindTheLastMonth();
        jointWeddingAheadOfOthers();
        jointTheEarlierMonth();
        jointOfLikeMonthsTheFirst();
        jointOneAlone();
        jointFateBeforeItWasMade();
        decreesAsKnown();
        foretoldInNoMonth();
        foretoldInTheMonthItIsDue();
        foretoldAsKnownInThatMonth();
        foretoldOfAllThirty();
        foretoldInTheLastMonth();
        EXPECT.end();
    }

    /** Two children; the DOWRY of 101 is 253 by a rate of 251; END is 180. Deposits: one of each kind. */
    private static Twins withKinds(String sentence) {
        Twins t = new Twins(EXPECT, sentence);
        t.given(x -> x.child(0), x -> x.child(0), x -> x.rate(15, 251));
        t.given(x -> x.deposit(PLAIN, 0, 0, 101, 1), x -> x.deposit(JOINT, 0, 1, 101, 2),
            x -> x.deposit(CONVENT, 0, 0, 101, 3));
        return t;
    }

    private static void dueIs(Twins t, int deposit, int known, long falls, long due, long sum, long fate) {
        t.answers(falls, x -> x.due(deposit, known, 0));
        t.answers(due, x -> x.due(deposit, known, 1));
        t.answers(sum, x -> x.due(deposit, known, 2));
        t.answers(fate, x -> x.due(deposit, known, 3));
    }

    private static void dueIsNone(Twins t, int deposit, int known) {
        t.refuses(Expect.NONE, x -> x.due(deposit, known, 0), x -> x.due(deposit, known, 1),
            x -> x.due(deposit, known, 2), x -> x.due(deposit, known, 3));
    }

    private static void dueOfNoSuchDeposit() {
        Twins t = withKinds("14: there is no such deposit");
        t.given(x -> x.fate(0, 2, 7));
        t.refuses(Expect.BEYOND, x -> x.due(-1, 0, 0), x -> x.due(3, 0, 0), x -> x.due(LEAST_INT, 0, 0),
            x -> x.due(MOST_INT, 0, 0));
        t.answers(7, x -> x.due(0, 0, 0));
        t.answers(7, x -> x.due(2, 0, 0));
        t.stayAlike();
    }

    private static void dueKnownInNoMonth() {
        Twins t = withKinds("14: known is no month");
        t.given(x -> x.fate(0, 2, 7));
        t.refuses(Expect.BEYOND, x -> x.due(0, -1, 0), x -> x.due(0, 1200, 0), x -> x.due(0, LEAST_INT, 0),
            x -> x.due(0, MOST_INT, 0));
        t.answers(7, x -> x.due(0, 0, 0));
        t.answers(7, x -> x.due(0, 1199, 0));
        t.stayAlike();
    }

    private static void dueOfAnotherWhat() {
        Twins t = withKinds("14: another what");
        t.given(x -> x.fate(0, 2, 7), x -> x.decree(0, 0, 2));
        t.refuses(Expect.BEYOND, x -> x.due(0, 0, -1), x -> x.due(0, 0, 4), x -> x.due(0, 0, LEAST_INT),
            x -> x.due(0, 0, MOST_INT));
        dueIs(t, 0, 0, 7, 9, 50, 2);
        t.stayAlike();
    }

    /** The FATE that was known before it was made is undone when it is. */
    private static void dueOfOneNotMadeByThen() {
        Twins t = withKinds("14: NONE: it wasn't made by then");
        t.given(x -> x.fate(0, 2, 90), x -> x.months(1), x -> x.fate(0, 3, 0));
        t.answers(3, x -> x.deposit(PLAIN, 0, 0, 40, 0));
        t.given(x -> x.fate(0, 2, 90));
        dueIs(t, 0, 0, 90, 90, 50, 2);
        dueIsNone(t, 3, 0);
        dueIs(t, 3, 1, 90, 90, 20, 2);
        t.stayAlike();
    }

    private static void dueOfOneThatDoesNotFall() {
        Twins t = withKinds("14: NONE: it doesn't fall");
        t.given(x -> x.fate(1, 3, 0));
        for (int deposit = 0; deposit <= 2; deposit++) {
            dueIsNone(t, deposit, 0);
            dueIsNone(t, deposit, 1199);
        }
        t.given(x -> x.fate(1, 2, 5));
        dueIsNone(t, 0, 0);
        dueIs(t, 1, 0, 5, 5, 50, 2);
        dueIsNone(t, 2, 0);
        t.stayAlike();
    }

    private static void dueOfOneWhoseFateIsNotKnown() {
        Twins t = withKinds("14: NONE: not known then, or undone");
        t.given(x -> x.months(6), x -> x.fate(0, 2, 3), x -> x.months(4), x -> x.fate(0, 3, 3));
        dueIsNone(t, 0, 5);
        dueIs(t, 0, 6, 3, 3, 50, 2);
        dueIs(t, 0, 9, 3, 3, 50, 2);
        dueIsNone(t, 0, 10);
        dueIsNone(t, 0, 1199);
        t.stayAlike();
    }

    private static void dueBeyondAheadOfNone() {
        Twins t = withKinds("14: BEYOND ahead of NONE");
        t.refuses(Expect.BEYOND, x -> x.due(3, 0, 0), x -> x.due(0, 1200, 0), x -> x.due(0, 0, 4));
        t.refuses(Expect.NONE, x -> x.due(0, 0, 0));
        t.stayAlike();
    }

    private static void fateBeforeItWasMade() {
        Twins t = withKinds("14: a FATE in a month before that in which it was made counts as none");
        t.given(x -> x.months(8), x -> x.deposit(PLAIN, 0, 0, 40, 0), x -> x.fate(0, 2, 7));
        dueIs(t, 0, 8, 7, 7, 50, 2);
        dueIsNone(t, 3, 8);
        t.given(x -> x.fate(0, 2, 8));
        dueIs(t, 3, 8, 8, 8, 20, 2);
        t.stayAlike();
    }

    private static void wedsAtTheEnd() {
        Twins t = withKinds("14: the DOWRY, if f is END or behind it");
        t.given(x -> x.decree(3, 0, 500), x -> x.fate(0, 0, 180));
        for (int deposit = 0; deposit <= 2; deposit++) {
            dueIs(t, deposit, 0, 180, 180, 253, 0);
        }
        t.given(x -> x.fate(0, 0, 181));
        dueIs(t, 0, 0, 181, 181, 253, 0);
        t.given(x -> x.fate(0, 0, 1199));
        dueIs(t, 0, 0, 1199, 1199, 253, 0);
        t.given(x -> x.fate(0, 0, 179));
        dueIs(t, 0, 0, 179, 179, 126, 0);
        t.stayAlike();
    }

    private static void wedsBeforeTheEnd(int early, long sum) {
        Twins t = withKinds("14: else EARLY's thousandths, cut: " + early);
        t.given(x -> x.decree(3, 0, early), x -> x.fate(0, 0, 179));
        for (int deposit = 0; deposit <= 2; deposit++) {
            dueIs(t, deposit, 0, 179, 179, sum, 0);
        }
        t.given(x -> x.fate(0, 0, 0));
        dueIs(t, 0, 0, 0, 0, sum, 0);
        t.stayAlike();
    }

    private static void conventAsIfSheWed() {
        Twins t = withKinds("14: veiled: a CONVENT as if she wed");
        t.given(x -> x.decree(3, 0, 8), x -> x.decree(2, 0, 100), x -> x.fate(0, 1, 179));
        dueIs(t, 2, 0, 179, 179, 2, 1);
        dueIs(t, 0, 0, 179, 179, 25, 1);
        dueIs(t, 1, 0, 179, 179, 25, 1);
        t.given(x -> x.fate(0, 1, 180));
        dueIs(t, 2, 0, 180, 180, 253, 1);
        dueIs(t, 0, 0, 180, 180, 25, 1);
        dueIs(t, 1, 0, 180, 180, 25, 1);
        t.stayAlike();
    }

    private static void veiled(int veil, long sum) {
        Twins t = withKinds("14: veiled: VEIL's thousandths of the DOWRY, cut: " + veil);
        t.given(x -> x.decree(2, 0, veil), x -> x.fate(0, 1, 5));
        dueIs(t, 0, 0, 5, 5, sum, 1);
        dueIs(t, 1, 0, 5, 5, sum, 1);
        t.stayAlike();
    }

    private static void dies(int death, long sum) {
        Twins t = withKinds("14: dies: DEATH's thousandths of the SUM, cut: " + death);
        t.given(x -> x.decree(1, 0, death), x -> x.fate(0, 2, 500));
        for (int deposit = 0; deposit <= 2; deposit++) {
            dueIs(t, deposit, 0, 500, 500, sum, 2);
        }
        t.stayAlike();
    }

    private static void cut(int thousandths, long sum) {
        Twins t = withKinds("14: CUT's thousandths are taken, cut: " + thousandths);
        t.given(x -> x.decree(4, 0, thousandths), x -> x.fate(0, 0, 180));
        dueIs(t, 0, 0, 180, 180, sum, 0);
        t.stayAlike();
    }

    private static void earlyInForceForTheFatesMonth() {
        Twins t = withKinds("14: EARLY in force for f");
        t.given(x -> x.decree(0, 0, 9), x -> x.decree(3, 101, 1000), x -> x.fate(0, 0, 100));
        dueIs(t, 0, 0, 100, 109, 0, 0);
        t.given(x -> x.decree(3, 100, 500));
        dueIs(t, 0, 0, 100, 109, 126, 0);
        t.stayAlike();
    }

    private static void veilInForceForTheFatesMonth() {
        Twins t = withKinds("14: VEIL in force for f");
        t.given(x -> x.decree(0, 0, 9), x -> x.decree(2, 101, 1000), x -> x.fate(0, 1, 100));
        dueIs(t, 0, 0, 100, 109, 101, 1);
        t.given(x -> x.decree(2, 100, 500));
        dueIs(t, 0, 0, 100, 109, 126, 1);
        t.stayAlike();
    }

    private static void deathInForceForTheFatesMonth() {
        Twins t = withKinds("14: DEATH in force for f");
        t.given(x -> x.decree(0, 0, 9), x -> x.decree(1, 101, 1000), x -> x.fate(0, 2, 100));
        dueIs(t, 0, 0, 100, 109, 50, 2);
        t.given(x -> x.decree(1, 100, 600));
        dueIs(t, 0, 0, 100, 109, 60, 2);
        t.stayAlike();
    }

    private static void delayInForceForTheFatesMonth() {
        Twins t = withKinds("14: DELAY in force for f");
        t.given(x -> x.decree(0, 101, 60), x -> x.fate(0, 2, 100));
        dueIs(t, 0, 0, 100, 100, 50, 2);
        t.given(x -> x.decree(0, 100, 1));
        dueIs(t, 0, 0, 100, 101, 50, 2);
        t.given(x -> x.fate(0, 2, 101));
        dueIs(t, 0, 0, 101, 161, 50, 2);
        t.stayAlike();
    }

    private static void cutInForceForTheMonthItIsDue() {
        Twins t = withKinds("14: CUT in force for the month in which it is DUE");
        t.given(x -> x.decree(0, 0, 5), x -> x.decree(4, 106, 1000), x -> x.fate(0, 2, 100));
        dueIs(t, 0, 0, 100, 105, 50, 2);
        t.given(x -> x.decree(4, 105, 100));
        dueIs(t, 0, 0, 100, 105, 45, 2);
        t.given(x -> x.decree(4, 100, 200));
        dueIs(t, 0, 0, 100, 105, 45, 2);
        t.stayAlike();
    }

    private static void delayOf60() {
        Twins t = withKinds("14: f and DELAY, 0 or 60");
        t.given(x -> x.fate(0, 2, 0), x -> x.decree(0, 0, 60));
        dueIs(t, 0, 0, 0, 60, 50, 2);
        t.given(x -> x.decree(0, 0, 0));
        dueIs(t, 0, 0, 0, 0, 50, 2);
        t.stayAlike();
    }

    private static void dueBehindTheLastMonth() {
        Twins t = withKinds("14: DUE behind 1199");
        t.given(x -> x.fate(0, 2, 1199), x -> x.decree(0, 1199, 60), x -> x.decree(4, 1199, 500));
        dueIs(t, 0, 0, 1199, 1259, 25, 2);
        t.answers(0, x -> x.foretold(1199));
        t.given(x -> x.fate(0, 2, 1139), x -> x.decree(0, 0, 60));
        dueIs(t, 0, 0, 1139, 1199, 25, 2);
        t.answers(75, x -> x.foretold(1199));
        t.stayAlike();
    }

    private static void jointWeddingAheadOfOthers() {
        Twins t = withKinds("14: JOINT: a wedding ahead of others");
        t.given(x -> x.fate(0, 2, 5), x -> x.fate(1, 0, 1199));
        dueIs(t, 1, 0, 1199, 1199, 253, 0);
        t.given(x -> x.fate(0, 0, 1199), x -> x.fate(1, 1, 5));
        dueIs(t, 1, 0, 1199, 1199, 253, 0);
        t.stayAlike();
    }

    private static void jointTheEarlierMonth() {
        Twins t = withKinds("14: JOINT: else that of the earlier month");
        t.given(x -> x.fate(0, 2, 51), x -> x.fate(1, 1, 50));
        dueIs(t, 1, 0, 50, 50, 101, 1);
        t.given(x -> x.fate(1, 1, 52));
        dueIs(t, 1, 0, 51, 51, 50, 2);
        t.given(x -> x.fate(0, 0, 301), x -> x.fate(1, 0, 300));
        dueIs(t, 1, 0, 300, 300, 253, 0);
        t.given(x -> x.fate(1, 0, 302));
        dueIs(t, 1, 0, 301, 301, 253, 0);
        t.stayAlike();
    }

    private static void jointOfLikeMonthsTheFirst() {
        Twins t = withKinds("14: JOINT: of like ones that of the first child");
        t.given(x -> x.deposit(JOINT, 1, 0, 101, 2), x -> x.fate(1, 1, 50), x -> x.fate(0, 2, 50));
        dueIs(t, 1, 0, 50, 50, 50, 2);
        dueIs(t, 3, 0, 50, 50, 101, 1);
        t.stayAlike();
    }

    private static void jointOneAlone() {
        Twins t = withKinds("14: JOINT: one alone if the other one has none");
        dueIsNone(t, 1, 0);
        t.given(x -> x.fate(0, 1, 50));
        dueIs(t, 1, 0, 50, 50, 101, 1);
        t.given(x -> x.fate(0, 3, 0), x -> x.fate(1, 2, 60));
        dueIs(t, 1, 0, 60, 60, 50, 2);
        t.given(x -> x.fate(1, 3, 0));
        dueIsNone(t, 1, 0);
        t.stayAlike();
    }

    private static void jointFateBeforeItWasMade() {
        Twins t = withKinds("14: JOINT: a FATE before it was made counts as none");
        t.given(x -> x.months(8), x -> x.deposit(JOINT, 0, 1, 101, 2), x -> x.fate(0, 0, 7), x -> x.fate(1, 2, 9));
        dueIs(t, 3, 8, 9, 9, 50, 2);
        t.given(x -> x.fate(0, 0, 8));
        dueIs(t, 3, 8, 8, 8, 0, 0);
        t.given(x -> x.fate(0, 2, 300), x -> x.fate(1, 0, 7));
        dueIs(t, 3, 8, 300, 300, 50, 2);
        t.given(x -> x.fate(0, 2, 7));
        dueIsNone(t, 3, 8);
        t.stayAlike();
    }

    private static void decreesAsKnown() {
        Twins t = withKinds("14: all as KNOWN in k");
        t.given(x -> x.fate(0, 2, 20), x -> x.months(1), x -> x.decree(1, 0, 1000), x -> x.months(1));
        t.given(x -> x.decree(0, 0, 3), x -> x.months(1), x -> x.decree(4, 23, 500));
        dueIs(t, 0, 0, 20, 20, 50, 2);
        dueIs(t, 0, 1, 20, 20, 101, 2);
        dueIs(t, 0, 2, 20, 23, 101, 2);
        dueIs(t, 0, 3, 20, 23, 51, 2);
        t.stayAlike();
    }

    private static void foretoldInNoMonth() {
        Twins t = withKinds("15: it is no month");
        t.refuses(Expect.BEYOND, x -> x.foretold(-1), x -> x.foretold(1200), x -> x.foretold(LEAST_INT),
            x -> x.foretold(MOST_INT));
        t.answers(0, x -> x.foretold(0));
        t.answers(0, x -> x.foretold(1199));
        t.stayAlike();
    }

    private static void foretoldInTheMonthItIsDue() {
        Twins t = withKinds("15: DUE in a month, not ahead of it or behind it");
        t.given(x -> x.decree(0, 0, 2), x -> x.fate(0, 2, 40));
        t.answers(0, x -> x.foretold(40));
        t.answers(0, x -> x.foretold(41));
        t.answers(150, x -> x.foretold(42));
        t.answers(0, x -> x.foretold(43));
        t.stayAlike();
    }

    private static void foretoldAsKnownInThatMonth() {
        Twins t = withKinds("15: as KNOWN in it");
        t.given(x -> x.months(10), x -> x.fate(0, 2, 9));
        t.answers(0, x -> x.foretold(9));
        t.given(x -> x.fate(0, 2, 10));
        t.answers(150, x -> x.foretold(10));
        t.given(x -> x.months(1), x -> x.fate(0, 3, 0));
        t.answers(150, x -> x.foretold(10));
        t.given(x -> x.fate(0, 2, 12), x -> x.decree(1, 0, 1000));
        t.answers(303, x -> x.foretold(12));
        t.stayAlike();
    }

    private static void foretoldOfAllThirty() {
        Twins t = new Twins(EXPECT, "15: what all DEPOSITS are due");
        t.given(x -> x.child(0), x -> x.rate(15, 1000));
        for (int i = 0; i < 30; i++) {
            t.given(x -> x.deposit(PLAIN, 0, 0, 10000, 0));
        }
        t.given(x -> x.fate(0, 0, 180));
        t.answers(3000000, x -> x.foretold(180));
        t.stayAlike();
    }

    private static void foretoldInTheLastMonth() {
        Twins t = withKinds("15: in month 0 and in the last one");
        t.given(x -> x.fate(0, 2, 1199), x -> x.fate(1, 2, 0));
        t.answers(100, x -> x.foretold(1199));
        t.answers(50, x -> x.foretold(0));
        t.stayAlike();
    }
}
