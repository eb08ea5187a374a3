import java.util.Random;

/** Long runs of calls, drawn by a fixed seed, on the program and on PlainFund: like answers. */
public final class PlainFundTest {
    private static final int RUNS = 1500;
    private static final int CALLS = 512;
    private static final Expect EXPECT = new Expect();

    private final Random random;
    private final DowryFund x = new DowryFund();
    private final PlainFund plain = new PlainFund();
    private final int pace;
    private final int span;
    private String call;
    private long got;
    private long want;

    private PlainFundTest(int seed) {
        random = new Random(seed);
        pace = new int[] {1, 3, 12, 60}[seed % 4];
        span = new int[] {40, 300, 1199}[seed % 3];
    }

    public static void main(String[] args) {
        for (int seed = 0; seed < RUNS; seed++) {
            if (!new PlainFundTest(seed).agrees(seed)) {
                break;
            }
        }
        EXPECT.end();
    }

    private boolean agrees(int seed) {
        StringBuilder told = new StringBuilder();
        for (int i = 0; i < CALLS; i++) {
            step(i);
            told.append(call).append(" -> ").append(got).append('\n');
            if (got != want) {
                System.out.print(told);
                EXPECT.is("run " + seed + ", call " + i + ", " + call, got, want);
                return false;
            }
        }
        return true;
    }

    /** Mostly least .. most, at times just outside or far off. */
    private int pick(int least, int most) {
        int r = random.nextInt(60);
        if (r == 0) {
            return least - 1;
        }
        if (r == 1) {
            return most + 1;
        }
        if (r == 2) {
            return random.nextInt();
        }
        if (r < 8) {
            return r % 2 == 0 ? least : most;
        }
        return most < least ? least : least + random.nextInt(most - least + 1);
    }

    private int month() {
        int r = random.nextInt(4);
        if (r == 0) {
            return pick(0, 1199);
        }
        return r == 1 ? Math.max(0, plain.now - random.nextInt(5)) : plain.now + random.nextInt(span) / 4;
    }

    private int aClaim() {
        return pick(0, plain.claims.size() - 1);
    }

    private int aChild() {
        return pick(0, plain.births.size() - 1);
    }

    private void answer(String name, long got, long want, Object... args) {
        this.call = name + java.util.Arrays.toString(args);
        this.got = got;
        this.want = want;
    }

    private void step(int i) {
        int group = i < 15 ? random.nextInt(3) : random.nextInt(12);
        if (group < 4) {
            tellSomething();
        } else if (group < 6) {
            goOn();
        } else if (group < 10) {
            askClaims();
        } else {
            askOthers();
        }
    }

    private void tellSomething() {
        int a;
        int b;
        int c;
        switch (random.nextInt(7)) {
            case 0 -> {
                a = pick(0, 5);
                b = month();
                c = a == 0 ? pick(0, 60) : a == 5 ? pick(12, 240) : pick(0, 1000);
                c = a == 5 && random.nextInt(2) == 0 ? pick(12, 30) : c;
                answer("decree", x.decree(a, b, c), plain.decree(a, b, c), a, b, c);
            }
            case 1 -> {
                a = pick(1, 20);
                b = pick(100, 1000);
                answer("rate", x.rate(a, b), plain.rate(a, b), a, b);
            }
            case 2 -> {
                a = pick(0, plain.now);
                answer("child", x.child(a), plain.child(a), a);
            }
            case 3 -> {
                a = aChild();
                b = pick(0, 3);
                c = month();
                answer("fate", x.fate(a, b, c), plain.fate(a, b, c), a, b, c);
            }
            default -> makeDeposit();
        }
    }

    private void makeDeposit() {
        int kind = pick(0, 2);
        int child = aChild();
        int other = aChild();
        int sum = random.nextInt(3) == 0 ? pick(1, 9) : pick(1, 10000);
        int holder = pick(0, 9);
        answer("deposit", x.deposit(kind, child, other, sum, holder),
            plain.deposit(kind, child, other, sum, holder), kind, child, other, sum, holder);
    }

    private void goOn() {
        int a;
        int b;
        switch (random.nextInt(4)) {
            case 0 -> {
                a = random.nextInt(30) == 0 ? pick(1, 240) : 1 + random.nextInt(pace);
                answer("months", x.months(a), plain.months(a), a);
            }
            case 1 -> {
                a = random.nextInt(3) == 0 ? pick(0, 30) : random.nextInt(5) == 0 ? pick(0, 1000000) : pick(0, 3000);
                answer("income", x.income(a), plain.income(a), a);
            }
            case 2 -> {
                a = aClaim();
                b = pick(0, 9);
                answer("sell", x.sell(a, b), plain.sell(a, b), a, b);
            }
            default -> {
                a = pick(0, 5);
                answer("purse", x.purse(a), plain.purse(a), a);
            }
        }
    }

    private void askClaims() {
        int a = aClaim();
        int b;
        int c;
        switch (random.nextInt(7)) {
            case 0 -> {
                b = pick(0, 8);
                answer("about", x.about(a, b), plain.about(a, b), a, b);
            }
            case 1 -> {
                b = pick(0, 2);
                answer("as", x.as(a, b), plain.as(a, b), a, b);
            }
            case 2 -> {
                b = month();
                answer("holder", x.holder(a, b), plain.holder(a, b), a, b);
            }
            case 3 -> {
                b = month();
                answer("foretold", x.foretold(b), plain.foretold(b), b);
            }
            case 4 -> {
                b = pick(0, 9);
                answer("paid", x.paid(b), plain.paid(b), b);
            }
            default -> {
                b = month();
                c = pick(0, 3);
                answer("due", x.due(a, b, c), plain.due(a, b, c), a, b, c);
            }
        }
    }

    private void askOthers() {
        int a;
        int b;
        int c;
        switch (random.nextInt(9)) {
            case 0 -> {
                a = pick(0, 5);
                b = month();
                c = month();
                answer("force", x.force(a, b, c), plain.force(a, b, c), a, b, c);
            }
            case 1 -> {
                a = aChild();
                b = month();
                boolean m = random.nextBoolean();
                answer("told", x.told(a, b, m), plain.told(a, b, m), a, b, m);
            }
            case 2 -> setLives();
            case 3 -> {
                a = pick(0, 20);
                b = pick(a, 21);
                c = pick(0, 100000);
                answer("value", x.value(a, b, c), plain.value(a, b, c), a, b, c);
            }
            case 4 -> {
                a = pick(0, 20);
                b = pick(a, 21);
                answer("left", x.left(a, b), plain.left(a, b), a, b);
            }
            case 5 -> tellNumber();
            case 6 -> tellAllNumbers();
            case 7 -> {
                a = pick(0, 5);
                answer("count", x.count(a), plain.count(a), a);
            }
            default -> {
                a = pick(1, 5);
                answer("found", x.found(a), plain.found(a), a);
            }
        }
    }

    private void setLives() {
        int age = pick(0, 20);
        int die = pick(0, 330);
        int wed = pick(0, 330);
        int veil = pick(0, 340);
        answer("lives", x.lives(age, die, wed, veil), plain.lives(age, die, wed, veil), age, die, wed, veil);
    }

    private void tellNumber() {
        int v = random.nextInt(4);
        answer("tell", x.tell(v), plain.tell(v), v);
    }

    /** What is due by PlainFund is told to both, at times with a number wrong, missing or too many. */
    private void tellAllNumbers() {
        if (random.nextInt(3) > 0) {
            x.check();
            plain.check();
        }
        int all = plain.claims.size() + (random.nextInt(3) == 0 ? random.nextInt(3) - 1 : 0);
        int wrong = random.nextInt(3) == 0 ? random.nextInt(31) : -1;
        for (int k = 0; k < all; k++) {
            long due = k < plain.claims.size() ? plain.due(k, plain.now, 2) : 0;
            if (k < plain.claims.size()) {
                x.due(k, plain.now, 2);
            }
            int v = (due < 0 ? 0 : (int) due) + (k == wrong ? 1 : 0);
            x.tell(v);
            plain.tell(v);
        }
        answer("check", x.check(), plain.check());
    }
}
