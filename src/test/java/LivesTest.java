/** Promises 19 to 21: tables of lives, values by them, and who is left. */
public final class LivesTest {
    private static final Expect EXPECT = new Expect();

    public static void main(String[] args) {
        livesSet();
        livesBeyond();
        valuesAndLeft();
        eachIsCut();
        valueIsCut();
        spans();
        spansBeyond();
        EXPECT.end();
    }

    private static void livesSet() {
        DowryFund x = new DowryFund();
        EXPECT.is("none go", x.lives(0, 0, 0, 0), 1000);
        EXPECT.is("all go", x.lives(20, 300, 300, 400), 0);
        EXPECT.is("one kind alone", x.lives(5, 0, 1000, 0), 0);
        EXPECT.is("some go", x.lives(5, 1, 20, 300), 679);
        EXPECT.is("the latest holds", x.left(5, 6), 679000);
        EXPECT.is("age 20", x.left(20, 21), 0);
    }

    private static void livesBeyond() {
        DowryFund x = new DowryFund();
        EXPECT.is("age -1", x.lives(-1, 0, 0, 0), Expect.BEYOND);
        EXPECT.is("age 21", x.lives(21, 0, 0, 0), Expect.BEYOND);
        EXPECT.is("die -1", x.lives(3, -1, 5, 5), Expect.BEYOND);
        EXPECT.is("wed -1", x.lives(3, 5, -1, 5), Expect.BEYOND);
        EXPECT.is("veil -1", x.lives(3, 5, 5, -1), Expect.BEYOND);
        EXPECT.is("1001 together", x.lives(3, 333, 333, 335), Expect.BEYOND);
        EXPECT.is("too many to add", x.lives(3, Integer.MAX_VALUE, Integer.MAX_VALUE, 2), Expect.BEYOND);
        EXPECT.is("far above", x.lives(3, 0, 0, Integer.MAX_VALUE), Expect.BEYOND);
        EXPECT.is("nothing changed", x.left(3, 4), 1000000);
        EXPECT.is("found", x.found(1), 8);
    }

    private static void valuesAndLeft() {
        DowryFund x = new DowryFund();
        x.lives(10, 10, 0, 0);
        x.lives(11, 0, 500, 0);
        x.lives(12, 0, 0, 250);
        x.lives(13, 0, 100, 0);
        EXPECT.is("at once", x.value(10, 10, 100000), 0);
        EXPECT.is("none wed", x.value(10, 11, 100000), 0);
        EXPECT.is("the first wed", x.value(10, 12, 1000), 495);
        EXPECT.is("veiled aren't counted", x.value(10, 13, 1000), 495);
        EXPECT.is("more wed", x.value(10, 14, 100000), 53212);
        EXPECT.is("from a later age", x.value(12, 14, 100000), 7500);
        EXPECT.is("left at 12", x.left(10, 12), 495000);
        EXPECT.is("left at 13", x.left(10, 13), 371250);
        EXPECT.is("left at 14", x.left(10, 14), 334125);
        EXPECT.is("left at once", x.left(10, 10), 1000000);
        EXPECT.is("of no dowry", x.value(10, 14, 0), 0);
    }

    private static void eachIsCut() {
        DowryFund x = new DowryFund();
        x.lives(0, 0, 999, 0);
        x.lives(1, 333, 333, 333);
        x.lives(2, 0, 0, 999);
        x.lives(3, 1, 1, 1);
        x.lives(4, 500, 500, 0);
        EXPECT.is("left at 1", x.left(0, 1), 1000);
        EXPECT.is("left at 2", x.left(0, 2), 1);
        EXPECT.is("of one, each kind is cut", x.left(0, 4), 1);
        EXPECT.is("of one, half", x.left(0, 5), 1);
        EXPECT.is("counted", x.value(0, 5, 100000), 99933);
        EXPECT.is("from 2", x.value(2, 4, 100000), 0);
        EXPECT.is("left from 2", x.left(2, 4), 997);
    }

    private static void valueIsCut() {
        DowryFund x = new DowryFund();
        x.lives(0, 0, 999, 0);
        x.lives(1, 0, 9, 0);
        EXPECT.is("99900.9", x.value(0, 2, 100000), 99900);
        x.lives(1, 0, 10, 0);
        EXPECT.is("99901", x.value(0, 2, 100000), 99901);
    }

    private static void spans() {
        DowryFund x = new DowryFund();
        for (int age = 0; age <= 20; age++) {
            x.lives(age, 0, 100, 0);
        }
        EXPECT.is("all ages", x.left(0, 21), 109422);
        EXPECT.is("value of all ages", x.value(0, 21, 100000), 89057);
        EXPECT.is("the last age", x.value(20, 21, 100000), 10000);
        EXPECT.is("the last age at once", x.value(20, 20, 100000), 0);
        EXPECT.is("the first age", x.left(0, 1), 900000);
    }

    private static void spansBeyond() {
        DowryFund x = new DowryFund();
        EXPECT.is("a -1", x.value(-1, 5, 10), Expect.BEYOND);
        EXPECT.is("a 21", x.value(21, 21, 10), Expect.BEYOND);
        EXPECT.is("e below a", x.value(5, 4, 10), Expect.BEYOND);
        EXPECT.is("e 22", x.value(5, 22, 10), Expect.BEYOND);
        EXPECT.is("d -1", x.value(5, 6, -1), Expect.BEYOND);
        EXPECT.is("d 100001", x.value(5, 6, 100001), Expect.BEYOND);
        EXPECT.is("left a -1", x.left(-1, 5), Expect.BEYOND);
        EXPECT.is("left a 21", x.left(21, 21), Expect.BEYOND);
        EXPECT.is("left e below a", x.left(5, 4), Expect.BEYOND);
        EXPECT.is("left e 22", x.left(5, 22), Expect.BEYOND);
        EXPECT.is("found", x.found(1), 10);
    }
}
