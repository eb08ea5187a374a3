/** Counts and prints the answers that are not as due. */
final class Expect {
    static final long BEYOND = -1000000000001L;
    static final long NONE = -1000000000002L;
    static final long STATE = -1000000000003L;
    static final long FULL = -1000000000004L;
    static final long KIND = -1000000000005L;

    private int wrong = 0;

    void is(String what, long got, long want) {
        if (got != want) {
            wrong++;
            System.out.println(what + " answered " + got + ", due is " + want);
        }
    }

    void end() {
        if (wrong != 0) {
            System.out.println(wrong + " answers are not as due");
            System.exit(1);
        }
    }
}
