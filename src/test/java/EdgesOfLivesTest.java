/** Promises 19 to 21, each sentence that names a boundary: the last that is allowed, the first that isn't. */
public final class EdgesOfLivesTest {
    private static final int LEAST_INT = Integer.MIN_VALUE;
    private static final int MOST_INT = Integer.MAX_VALUE;
    private static final Expect EXPECT = new Expect();

    public static void main(String[] args) {
        livesOfNoSuchAge();
        livesBelow0();
        livesAbove1000Together();
        livesOfEachKindAlone();
        livesDontWrapAround();
        livesToldAgain();
        valueFromNoSuchAge();
        valueUntilNoSuchAge();
        valueOfNoSuchDowry();
        valueAtOnce();
        valueUntilTheLastYear();
        valueOfAllWhoWedAtOnce();
        valueIsCut();
        valueOfTheGreatestDowry();
        leftFromNoSuchAge();
        leftUntilNoSuchAge();
        leftAtOnce();
        leftOfNobody();
        leftOfOne();
        EXPECT.end();
    }

    private static Twins twins(String sentence) {
        return new Twins(EXPECT, sentence);
    }

    private static void livesOfNoSuchAge() {
        Twins t = twins("19: age is 0 .. 20");
        t.refuses(Expect.BEYOND, x -> x.lives(-1, 1, 1, 1), x -> x.lives(21, 1, 1, 1),
            x -> x.lives(LEAST_INT, 1, 1, 1), x -> x.lives(MOST_INT, 1, 1, 1));
        t.answers(997, x -> x.lives(0, 1, 1, 1));
        t.answers(994, x -> x.lives(20, 2, 2, 2));
        t.answers(997000, x -> x.left(0, 1));
        t.answers(994000, x -> x.left(20, 21));
        t.answers(1000000, x -> x.left(1, 20));
        t.stayAlike();
    }

    private static void livesBelow0() {
        Twins t = twins("19: one is below 0");
        t.given(x -> x.lives(4, 10, 20, 30));
        t.refuses(Expect.BEYOND, x -> x.lives(4, -1, 0, 0), x -> x.lives(4, 0, -1, 0), x -> x.lives(4, 0, 0, -1),
            x -> x.lives(4, -1, 500, 500), x -> x.lives(4, 1001, -1, 0), x -> x.lives(4, 0, 1001, -1),
            x -> x.lives(4, LEAST_INT, 0, 0), x -> x.lives(4, 0, LEAST_INT, 0), x -> x.lives(4, 0, 0, LEAST_INT));
        t.answers(940000, x -> x.left(4, 5));
        t.answers(1000, x -> x.lives(4, 0, 0, 0));
        t.answers(1000000, x -> x.left(4, 5));
        t.stayAlike();
    }

    private static void livesAbove1000Together() {
        Twins t = twins("19: they are above 1000 together");
        t.refuses(Expect.BEYOND, x -> x.lives(4, 334, 334, 333), x -> x.lives(4, 1001, 0, 0),
            x -> x.lives(4, 0, 1001, 0), x -> x.lives(4, 0, 0, 1001), x -> x.lives(4, 1000, 1, 0),
            x -> x.lives(4, 0, 1000, 1), x -> x.lives(4, 1, 0, 1000));
        t.answers(1000000, x -> x.left(4, 5));
        t.answers(0, x -> x.lives(4, 334, 333, 333));
        t.answers(0, x -> x.left(4, 5));
        t.answers(1, x -> x.lives(4, 333, 333, 333));
        t.answers(1000, x -> x.left(4, 5));
        t.stayAlike();
    }

    private static void livesOfEachKindAlone() {
        Twins t = twins("19: 1000 of one kind");
        t.answers(0, x -> x.lives(0, 1000, 0, 0));
        t.answers(0, x -> x.lives(1, 0, 1000, 0));
        t.answers(0, x -> x.lives(2, 0, 0, 1000));
        for (int i = 0; i <= 2; i++) {
            int age = i;
            t.answers(0, x -> x.left(age, age + 1));
            t.answers(age == 1 ? 100000 : 0, x -> x.value(age, age + 1, 100000));
        }
        t.stayAlike();
    }

    private static void livesDontWrapAround() {
        Twins t = twins("19: together, without a wrap-around");
        t.refuses(Expect.BEYOND, x -> x.lives(4, MOST_INT, MOST_INT, 2), x -> x.lives(4, MOST_INT, 1, 0),
            x -> x.lives(4, 0, MOST_INT, MOST_INT), x -> x.lives(4, 1, 1, MOST_INT),
            x -> x.lives(4, MOST_INT, MOST_INT, MOST_INT), x -> x.lives(4, 1 << 30, 1 << 30, 1 << 30));
        t.answers(1000000, x -> x.left(4, 5));
        t.stayAlike();
    }

    private static void livesToldAgain() {
        Twins t = twins("19: LIVES of an age are so");
        t.given(x -> x.lives(4, 100, 200, 300));
        t.answers(999, x -> x.lives(4, 0, 1, 0));
        t.answers(999000, x -> x.left(4, 5));
        t.answers(100, x -> x.value(4, 5, 100000));
        t.stayAlike();
    }

    private static void valueFromNoSuchAge() {
        Twins t = twins("20: a is 0 .. 20");
        t.refuses(Expect.BEYOND, x -> x.value(-1, 5, 10), x -> x.value(-1, -1, 10), x -> x.value(21, 21, 10),
            x -> x.value(LEAST_INT, 5, 10), x -> x.value(MOST_INT, MOST_INT, 10));
        t.answers(0, x -> x.value(0, 5, 10));
        t.answers(0, x -> x.value(20, 21, 10));
        t.stayAlike();
    }

    private static void valueUntilNoSuchAge() {
        Twins t = twins("20: e is a .. 21");
        t.given(x -> x.lives(5, 0, 1000, 0), x -> x.lives(20, 0, 500, 0));
        t.refuses(Expect.BEYOND, x -> x.value(5, 4, 10), x -> x.value(5, 22, 10), x -> x.value(20, 19, 10),
            x -> x.value(0, -1, 10), x -> x.value(5, LEAST_INT, 10), x -> x.value(5, MOST_INT, 10));
        t.answers(0, x -> x.value(5, 5, 10));
        t.answers(10, x -> x.value(5, 6, 10));
        t.answers(10, x -> x.value(5, 21, 10));
        t.answers(5, x -> x.value(20, 21, 10));
        t.answers(0, x -> x.value(20, 20, 10));
        t.stayAlike();
    }

    private static void valueOfNoSuchDowry() {
        Twins t = twins("20: d is 0 .. 100000");
        t.given(x -> x.lives(5, 0, 1000, 0));
        t.refuses(Expect.BEYOND, x -> x.value(5, 6, -1), x -> x.value(5, 6, 100001), x -> x.value(5, 6, LEAST_INT),
            x -> x.value(5, 6, MOST_INT));
        t.answers(0, x -> x.value(5, 6, 0));
        t.answers(1, x -> x.value(5, 6, 1));
        t.answers(100000, x -> x.value(5, 6, 100000));
        t.stayAlike();
    }

    private static void valueAtOnce() {
        Twins t = twins("20: until the same age nobody is counted");
        for (int i = 0; i <= 20; i++) {
            int age = i;
            t.given(x -> x.lives(age, 0, 1000, 0));
            t.answers(0, x -> x.value(age, age, 100000));
            t.answers(100000, x -> x.value(age, age + 1, 100000));
        }
        t.stayAlike();
    }

    private static void valueUntilTheLastYear() {
        Twins t = twins("20: each year until e, e's own isn't counted");
        t.given(x -> x.lives(7, 0, 100, 0), x -> x.lives(8, 0, 100, 0));
        t.answers(0, x -> x.value(6, 7, 1000));
        t.answers(100, x -> x.value(6, 8, 1000));
        t.answers(190, x -> x.value(6, 9, 1000));
        t.answers(100, x -> x.value(8, 9, 1000));
        t.answers(0, x -> x.value(9, 21, 1000));
        t.stayAlike();
    }

    private static void valueOfAllWhoWedAtOnce() {
        Twins t = twins("20: nobody is left to wed");
        t.given(x -> x.lives(3, 0, 1000, 0), x -> x.lives(4, 0, 1000, 0), x -> x.lives(2, 1000, 0, 0));
        t.answers(100000, x -> x.value(3, 21, 100000));
        t.answers(0, x -> x.value(2, 21, 100000));
        t.answers(0, x -> x.value(0, 21, 100000));
        t.stayAlike();
    }

    private static void valueIsCut() {
        Twins t = twins("20: by 1000000, cut");
        t.given(x -> x.lives(3, 0, 999, 0));
        t.answers(0, x -> x.value(3, 4, 1));
        t.answers(99, x -> x.value(3, 4, 100));
        t.answers(999, x -> x.value(3, 4, 1000));
        t.stayAlike();
    }

    private static void valueOfTheGreatestDowry() {
        Twins t = twins("20: d times all who were counted, without a wrap-around");
        for (int i = 0; i <= 20; i++) {
            int age = i;
            t.given(x -> x.lives(age, 0, 500, 0));
        }
        t.answers(99999, x -> x.value(0, 21, 100000));
        t.answers(2, x -> x.left(0, 19));
        t.answers(1, x -> x.left(0, 21));
        t.stayAlike();
    }

    private static void leftFromNoSuchAge() {
        Twins t = twins("21: a is 0 .. 20");
        t.refuses(Expect.BEYOND, x -> x.left(-1, 5), x -> x.left(-1, -1), x -> x.left(21, 21),
            x -> x.left(LEAST_INT, 5), x -> x.left(MOST_INT, MOST_INT));
        t.answers(1000000, x -> x.left(0, 5));
        t.answers(1000000, x -> x.left(20, 21));
        t.stayAlike();
    }

    private static void leftUntilNoSuchAge() {
        Twins t = twins("21: e is a .. 21");
        t.given(x -> x.lives(5, 1, 2, 3), x -> x.lives(20, 500, 0, 0));
        t.refuses(Expect.BEYOND, x -> x.left(5, 4), x -> x.left(5, 22), x -> x.left(20, 19), x -> x.left(0, -1),
            x -> x.left(5, LEAST_INT), x -> x.left(5, MOST_INT));
        t.answers(1000000, x -> x.left(5, 5));
        t.answers(994000, x -> x.left(5, 6));
        t.answers(497000, x -> x.left(5, 21));
        t.answers(994000, x -> x.left(5, 20));
        t.stayAlike();
    }

    private static void leftAtOnce() {
        Twins t = twins("21: at the same age all are there");
        for (int i = 0; i <= 20; i++) {
            int age = i;
            t.given(x -> x.lives(age, 1000, 0, 0));
            t.answers(1000000, x -> x.left(age, age));
            t.answers(0, x -> x.left(age, age + 1));
        }
        t.stayAlike();
    }

    private static void leftOfNobody() {
        Twins t = twins("21: nobody is left");
        t.given(x -> x.lives(0, 400, 300, 300), x -> x.lives(1, 400, 300, 300));
        t.answers(0, x -> x.left(0, 1));
        t.answers(0, x -> x.left(0, 2));
        t.answers(0, x -> x.left(0, 21));
        t.stayAlike();
    }

    /** Of 1000, 1, 1 and 1 thousandths go: three; of what is below 1000 each kind is cut to nobody. */
    private static void leftOfOne() {
        Twins t = twins("21: each kind is cut");
        t.given(x -> x.lives(0, 999, 0, 0), x -> x.lives(1, 1, 1, 1), x -> x.lives(2, 1, 1, 1));
        t.given(x -> x.lives(3, 0, 999, 0), x -> x.lives(4, 500, 499, 1));
        t.answers(1000, x -> x.left(0, 1));
        t.answers(997, x -> x.left(0, 2));
        t.answers(997, x -> x.left(0, 3));
        t.answers(1, x -> x.left(0, 4));
        t.answers(1, x -> x.left(0, 5));
        t.stayAlike();
    }
}
