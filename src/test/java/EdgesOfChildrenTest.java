/** Promises 6 to 8, each sentence that names a boundary: the last that is allowed, the first that isn't. */
public final class EdgesOfChildrenTest {
    private static final int LEAST_INT = Integer.MIN_VALUE;
    private static final int MOST_INT = Integer.MAX_VALUE;
    private static final Expect EXPECT = new Expect();

    public static void main(String[] args) {
        childBornInMonth0AtLeast();
        childBornInTheMonthAtMost();
        childBornInTheLastMonth();
        thirtyChildren();
        childBeyondAheadOfFull();
        fateOfNoSuchChild();
        fateOfNoSuchFate();
        for (int fate = 0; fate <= 2; fate++) {
            fateFromHerBirthOn(fate);
            fateUntil1199(fate);
        }
        fateUndoneInAnyMonth();
        fateUndoneWithoutOne();
        ninetyFates();
        ninetyFatesOfAllChildren();
        fateBeyondAheadOfFull();
        toldOfNoSuchChild();
        toldKnownInNoMonth();
        toldNoneBeforeItWasTold();
        toldNoneWhenUndone();
        toldTheLastOfAMonth();
        toldBeyondAheadOfNone();
        EXPECT.end();
    }

    private static Twins twins(String sentence) {
        return new Twins(EXPECT, sentence);
    }

    private static void childBornInMonth0AtLeast() {
        Twins t = twins("6: month is 0 at least");
        t.given(x -> x.months(5));
        t.refuses(Expect.BEYOND, x -> x.child(-1), x -> x.child(LEAST_INT));
        t.answers(0, x -> x.child(0));
        t.stayAlike();
    }

    private static void childBornInTheMonthAtMost() {
        Twins t = twins("6: month is THE MONTH at most");
        t.refuses(Expect.BEYOND, x -> x.child(1));
        t.answers(0, x -> x.child(0));
        t.given(x -> x.months(5));
        t.refuses(Expect.BEYOND, x -> x.child(6), x -> x.child(1199), x -> x.child(MOST_INT));
        t.answers(1, x -> x.child(5));
        t.answers(2, x -> x.child(4));
        t.answers(3, x -> x.count(2));
        t.stayAlike();
    }

    private static void childBornInTheLastMonth() {
        Twins t = twins("6: born in the last month");
        t.given(x -> x.months(240), x -> x.months(240), x -> x.months(240), x -> x.months(240), x -> x.months(239));
        t.refuses(Expect.BEYOND, x -> x.child(1200));
        t.answers(0, x -> x.child(1199));
        t.refuses(Expect.BEYOND, x -> x.fate(0, 0, 1198), x -> x.fate(0, 0, 1200));
        t.answers(1, x -> x.fate(0, 0, 1199));
        t.stayAlike();
    }

    private static void thirtyChildren() {
        Twins t = twins("6: at most 30 children");
        t.given(x -> x.months(9));
        for (int i = 0; i < 29; i++) {
            t.given(x -> x.child(3));
        }
        t.answers(29, x -> x.child(8));
        t.refuses(Expect.FULL, x -> x.child(8), x -> x.child(0), x -> x.child(9));
        t.answers(30, x -> x.count(2));
        t.refuses(Expect.BEYOND, x -> x.fate(30, 0, 100), x -> x.told(30, 0, true), x -> x.fate(29, 0, 7));
        t.answers(1, x -> x.fate(29, 0, 8));
        t.stayAlike();
    }

    private static void childBeyondAheadOfFull() {
        Twins t = twins("6: BEYOND ahead of FULL");
        for (int i = 0; i < 30; i++) {
            t.given(x -> x.child(0));
        }
        t.refuses(Expect.BEYOND, x -> x.child(1), x -> x.child(-1));
        t.refuses(Expect.FULL, x -> x.child(0));
        t.stayAlike();
    }

    private static void fateOfNoSuchChild() {
        Twins t = twins("7: there is no such child");
        t.given(x -> x.child(0), x -> x.child(0));
        t.refuses(Expect.BEYOND, x -> x.fate(-1, 0, 9), x -> x.fate(2, 0, 9), x -> x.fate(2, 3, 9),
            x -> x.fate(LEAST_INT, 0, 9), x -> x.fate(MOST_INT, 0, 9));
        t.answers(1, x -> x.fate(0, 0, 9));
        t.answers(2, x -> x.fate(1, 0, 9));
        t.answers(2, x -> x.count(3));
        t.stayAlike();
    }

    private static void fateOfNoSuchFate() {
        Twins t = twins("7: there is no such fate");
        t.given(x -> x.child(0));
        t.refuses(Expect.BEYOND, x -> x.fate(0, -1, 9), x -> x.fate(0, 4, 9), x -> x.fate(0, LEAST_INT, 9),
            x -> x.fate(0, MOST_INT, 9));
        for (int i = 0; i <= 3; i++) {
            int fate = i;
            t.answers(fate + 1, x -> x.fate(0, fate, 9));
        }
        t.stayAlike();
    }

    private static void fateFromHerBirthOn(int fate) {
        Twins t = twins("7: month is her birth's at least, fate " + fate);
        t.given(x -> x.months(50), x -> x.child(40), x -> x.child(0));
        t.refuses(Expect.BEYOND, x -> x.fate(0, fate, 39), x -> x.fate(0, fate, 0), x -> x.fate(0, fate, -1),
            x -> x.fate(1, fate, -1), x -> x.fate(1, fate, LEAST_INT));
        t.answers(1, x -> x.fate(0, fate, 40));
        t.answers(2, x -> x.fate(1, fate, 0));
        t.answers(40, x -> x.told(0, 50, true));
        t.answers(0, x -> x.told(1, 50, true));
        t.answers(fate, x -> x.told(1, 50, false));
        t.stayAlike();
    }

    private static void fateUntil1199(int fate) {
        Twins t = twins("7: month is 1199 at most, fate " + fate);
        t.given(x -> x.child(0));
        t.refuses(Expect.BEYOND, x -> x.fate(0, fate, 1200), x -> x.fate(0, fate, MOST_INT));
        t.answers(1, x -> x.fate(0, fate, 1199));
        t.answers(1199, x -> x.told(0, 0, true));
        t.stayAlike();
    }

    private static void fateUndoneInAnyMonth() {
        Twins t = twins("7: of 3 the month isn't looked at");
        t.given(x -> x.months(9), x -> x.child(9), x -> x.fate(0, 0, 10));
        int[] months = {8, -1, 1200, LEAST_INT, MOST_INT, 9, 1199};
        for (int i = 0; i < months.length; i++) {
            int nth = 2 + i;
            int month = months[i];
            t.answers(nth, x -> x.fate(0, 3, month));
        }
        t.answers(Expect.NONE, x -> x.told(0, 9, true));
        t.stayAlike();
    }

    private static void fateUndoneWithoutOne() {
        Twins t = twins("7: none is told of her who has none");
        t.given(x -> x.child(0));
        t.answers(1, x -> x.fate(0, 3, 0));
        t.answers(2, x -> x.fate(0, 3, 0));
        t.answers(2, x -> x.count(3));
        t.refuses(Expect.NONE, x -> x.told(0, 0, false));
        t.answers(0, x -> x.deposit(0, 0, 0, 1, 0));
        t.stayAlike();
    }

    private static void ninetyFates() {
        Twins t = twins("7: at most 90 fates");
        t.given(x -> x.child(0), x -> x.child(0));
        for (int i = 0; i < 89; i++) {
            int month = i;
            t.given(x -> x.fate(0, 1, month));
        }
        t.answers(90, x -> x.fate(0, 2, 500));
        t.refuses(Expect.FULL, x -> x.fate(0, 0, 600), x -> x.fate(0, 3, 600), x -> x.fate(1, 0, 600));
        t.answers(90, x -> x.count(3));
        t.answers(500, x -> x.told(0, 0, true));
        t.answers(2, x -> x.told(0, 0, false));
        t.refuses(Expect.NONE, x -> x.told(1, 0, false));
        t.stayAlike();
    }

    private static void ninetyFatesOfAllChildren() {
        Twins t = twins("7: at most 90 fates, none undone among them counted less");
        for (int i = 0; i < 30; i++) {
            t.given(x -> x.child(0));
        }
        for (int i = 0; i < 90; i++) {
            int nth = i;
            t.answers(nth + 1, x -> x.fate(nth % 30, nth < 60 ? nth % 3 : 3, 7));
        }
        t.refuses(Expect.FULL, x -> x.fate(0, 3, 0), x -> x.fate(29, 0, 0));
        t.stayAlike();
    }

    private static void fateBeyondAheadOfFull() {
        Twins t = twins("7: BEYOND ahead of FULL");
        t.given(x -> x.child(0));
        for (int i = 0; i < 90; i++) {
            t.given(x -> x.fate(0, 0, 5));
        }
        t.refuses(Expect.BEYOND, x -> x.fate(1, 0, 5), x -> x.fate(0, 4, 5), x -> x.fate(0, 0, 1200));
        t.refuses(Expect.FULL, x -> x.fate(0, 0, 1199));
        t.stayAlike();
    }

    private static void toldOfNoSuchChild() {
        Twins t = twins("8: there is no such child");
        t.given(x -> x.child(0), x -> x.child(0), x -> x.fate(0, 1, 5), x -> x.fate(1, 2, 6));
        t.refuses(Expect.BEYOND, x -> x.told(-1, 0, false), x -> x.told(2, 0, false), x -> x.told(2, 0, true),
            x -> x.told(LEAST_INT, 0, true), x -> x.told(MOST_INT, 0, true));
        t.answers(1, x -> x.told(0, 0, false));
        t.answers(6, x -> x.told(1, 0, true));
        t.stayAlike();
    }

    private static void toldKnownInNoMonth() {
        Twins t = twins("8: known is 0 .. 1199");
        t.given(x -> x.child(0), x -> x.fate(0, 1, 5));
        t.refuses(Expect.BEYOND, x -> x.told(0, -1, false), x -> x.told(0, 1200, false), x -> x.told(0, -1, true),
            x -> x.told(0, 1200, true), x -> x.told(0, LEAST_INT, true), x -> x.told(0, MOST_INT, true));
        t.answers(1, x -> x.told(0, 0, false));
        t.answers(1, x -> x.told(0, 1199, false));
        t.answers(5, x -> x.told(0, 1199, true));
        t.stayAlike();
    }

    private static void toldNoneBeforeItWasTold() {
        Twins t = twins("8: NONE, not told yet");
        t.given(x -> x.child(0), x -> x.months(30));
        t.refuses(Expect.NONE, x -> x.told(0, 30, false), x -> x.told(0, 1199, true));
        t.given(x -> x.fate(0, 2, 3));
        t.refuses(Expect.NONE, x -> x.told(0, 29, false), x -> x.told(0, 29, true), x -> x.told(0, 0, true));
        t.answers(2, x -> x.told(0, 30, false));
        t.answers(3, x -> x.told(0, 31, true));
        t.stayAlike();
    }

    private static void toldNoneWhenUndone() {
        Twins t = twins("8: NONE, what was told is undone");
        t.given(x -> x.child(0), x -> x.fate(0, 1, 70), x -> x.months(4), x -> x.fate(0, 3, 70));
        t.answers(70, x -> x.told(0, 3, true));
        t.refuses(Expect.NONE, x -> x.told(0, 4, false), x -> x.told(0, 4, true), x -> x.told(0, 1199, false));
        t.given(x -> x.months(1), x -> x.fate(0, 0, 71));
        t.answers(Expect.NONE, x -> x.told(0, 4, false));
        t.answers(71, x -> x.told(0, 5, true));
        t.stayAlike();
    }

    private static void toldTheLastOfAMonth() {
        Twins t = twins("8: that told last in 0 .. k");
        t.given(x -> x.child(0), x -> x.fate(0, 1, 70), x -> x.fate(0, 0, 90), x -> x.fate(0, 2, 80));
        t.answers(2, x -> x.told(0, 0, false));
        t.answers(80, x -> x.told(0, 0, true));
        t.given(x -> x.months(1), x -> x.fate(0, 1, 60));
        t.answers(80, x -> x.told(0, 0, true));
        t.answers(60, x -> x.told(0, 1, true));
        t.stayAlike();
    }

    private static void toldBeyondAheadOfNone() {
        Twins t = twins("8: BEYOND ahead of NONE");
        t.given(x -> x.child(0));
        t.refuses(Expect.BEYOND, x -> x.told(0, -1, true), x -> x.told(0, 1200, false), x -> x.told(1, 0, true));
        t.refuses(Expect.NONE, x -> x.told(0, 0, true));
        t.stayAlike();
    }
}
