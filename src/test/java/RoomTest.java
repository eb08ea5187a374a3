import com.sun.management.ThreadMXBean;
import java.lang.management.ManagementFactory;

/** What a run makes: the rows of a new fund and thirty deposits; every other call makes nothing. */
public final class RoomTest {
    private static final ThreadMXBean THREADS = (ThreadMXBean) ManagementFactory.getThreadMXBean();
    /** A fund has some 800 elements in 30 rows and objects: far below this. */
    private static final long MOST_BYTES_OF_A_FUND = 16000;
    private static final long MOST_BYTES_OF_DEPOSITS = 30 * 400;
    /** The measure itself may take a little. */
    private static final long NEXT_TO_NOTHING = 256;
    private static final int ROUNDS_AHEAD = 3;

    private static long answers = 0;

    public static void main(String[] args) {
        long[] made = new long[4];
        // the machine loads its own classes in the first rounds: only the last one is looked at
        for (int i = 0; i <= ROUNDS_AHEAD; i++) {
            measure(made);
        }
        boolean fit = fits("a new fund", made[0], MOST_BYTES_OF_A_FUND)
            & fits("what is told", made[1], NEXT_TO_NOTHING)
            & fits("thirty deposits", made[2], MOST_BYTES_OF_DEPOSITS)
            & fits("all other calls", made[3], NEXT_TO_NOTHING);
        if (!fit) {
            System.exit(1);
        }
    }

    private static void measure(long[] made) {
        long start = bytes();
        DowryFund x = new DowryFund();
        long fund = bytes();
        tellAll(x);
        long told = bytes();
        makeDeposits(x);
        long deposits = bytes();
        useAll(x);
        made[0] = fund - start;
        made[1] = told - fund;
        made[2] = deposits - told;
        made[3] = bytes() - deposits;
    }

    private static long bytes() {
        return THREADS.getThreadAllocatedBytes(Thread.currentThread().getId());
    }

    private static boolean fits(String what, long got, long most) {
        if (got > most) {
            System.out.println(what + " made " + got + " bytes, at most " + most + " are due");
        }
        return got <= most;
    }

    private static void tellAll(DowryFund x) {
        for (int i = 0; i < 60; i++) {
            answers += x.decree(i % 5, i, i);
        }
        for (int i = 0; i < 30; i++) {
            answers += x.child(0);
        }
        answers += x.rate(15, 1000) + x.lives(3, 10, 20, 30);
    }

    private static void makeDeposits(DowryFund x) {
        for (int i = 0; i < 30; i++) {
            answers += x.deposit(i % 3, i, (i + 1) % 30, 100 + i, i % 10);
        }
    }

    private static void useAll(DowryFund x) {
        for (int i = 0; i < 30; i++) {
            answers += x.fate(i, i % 3, 200 + i) + x.sell(i, 9 - i % 10) + x.tell(i);
            answers += x.about(i, i % 9) + x.as(i, 0) + x.holder(i, 0) + x.due(i, 0, 2) + x.told(i, 0, true);
        }
        answers += x.check() + x.income(1000);
        for (int i = 0; i < 4; i++) {
            answers += x.months(240) + x.foretold(220) + x.purse(i) + x.paid(i) + x.count(i);
            answers += x.value(0, 21, 100000) + x.left(0, 21) + x.force(i, 100, 100) + x.found(i);
        }
    }
}
