import java.util.Arrays;

/**
 * A dowry fund of a city: a sum now, a greater one when she weds. Every act answers a long; an
 * answer below -999999999999 is a finding, and an act that answers one changes nothing else.
 */
public final class DowryFund {
    private static final int LAST_MONTH = 1199;
    private static final int MOST_MONTHS_AT_ONCE = 240;
    private static final int MOST_YEARS = 20;
    private static final int MONTHS_OF_A_YEAR = 12;

    private static final long LOW = -1000000000000L;
    private static final int BEYOND = 1;
    private static final int NONE = 2;
    private static final int STATE = 3;
    private static final int FULL = 4;
    private static final int KIND = 5;

    private static final int LEAST_RATE = 100;
    private static final int MOST_RATE = 1000;
    private static final int MOST_SUM = 10000;
    private static final int MOST_INCOME = 1000000;
    private static final long MOST_IN_PURSE = 1000000000L;
    private static final int MOST_VALUED_DOWRY = 100000;
    private static final int HOLDERS = 10;

    private static final int DELAY = 0;
    private static final int DEATH = 1;
    private static final int VEIL = 2;
    private static final int EARLY = 3;
    private static final int CUT = 4;
    private static final int TERM = 5;

    private static final int WEDS = 0;
    private static final int VEILED = 1;
    private static final int DIES = 2;
    private static final int UNDONE = 3;

    private static final int PLAIN = 0;
    private static final int JOINT = 1;
    private static final int CONVENT = 2;

    private static final int NO_ROW = -1;
    private static final int MORE_WERE_TOLD = 99;

    private final Findings findings;
    private final Decrees decrees;
    private final int[] rates;
    private final Children children;
    private final Deposits deposits;
    private final Dues dues;
    private final Purse purse;
    private final Roll roll;
    private final Lives tables;
    private final Waiting waiting;
    private int now;

    public DowryFund() {
        findings = new Findings();
        decrees = new Decrees();
        rates = new int[MOST_YEARS + 1];
        Arrays.fill(rates, LEAST_RATE);
        children = new Children();
        deposits = new Deposits();
        dues = new Dues(decrees, children);
        purse = new Purse();
        roll = new Roll(deposits, purse);
        tables = new Lives();
        waiting = new Waiting();
        now = 0;
    }

    // ---- months, decrees

    public long months(int n) {
        if (!isWithin(n, 1, MOST_MONTHS_AT_ONCE) || now + n > LAST_MONTH) {
            return findings.answer(BEYOND);
        }
        roll.learn(dues, now);
        for (int i = 0; i < n; i++) {
            roll.payFor(now);
            now++;
        }
        return now;
    }

    public long decree(int kind, int from, int value) {
        if (!Decrees.isKind(kind) || !isMonth(from) || !Decrees.mayBe(kind, value)) {
            return findings.answer(BEYOND);
        }
        if (decrees.isFull()) {
            return findings.answer(FULL);
        }
        decrees.add(kind, from, value, now);
        return decrees.size;
    }

    public long force(int kind, int month, int known) {
        if (!Decrees.isKind(kind) || !isMonth(month) || !isMonth(known)) {
            return findings.answer(BEYOND);
        }
        return decrees.inForce(kind, month, known);
    }

    public long rate(int years, int v) {
        if (!isWithin(years, 1, MOST_YEARS) || !isWithin(v, LEAST_RATE, MOST_RATE)) {
            return findings.answer(BEYOND);
        }
        int before = rates[years];
        rates[years] = v;
        return before;
    }

    // ---- children, deposits

    public long child(int month) {
        if (!isWithin(month, 0, now)) {
            return findings.answer(BEYOND);
        }
        if (children.isFull()) {
            return findings.answer(FULL);
        }
        children.add(month);
        return children.size - 1;
    }

    public long fate(int child, int fate, int month) {
        if (!children.has(child) || !isWithin(fate, WEDS, UNDONE)) {
            return findings.answer(BEYOND);
        }
        if (fate != UNDONE && !isWithin(month, children.birthOf(child), LAST_MONTH)) {
            return findings.answer(BEYOND);
        }
        if (children.areFatesFull()) {
            return findings.answer(FULL);
        }
        children.addFate(child, fate, month, now);
        return children.fateCount;
    }

    public long told(int child, int known, boolean month) {
        if (!children.has(child) || !isMonth(known)) {
            return findings.answer(BEYOND);
        }
        int row = children.fateRow(child, known);
        if (row == NO_ROW) {
            return findings.answer(NONE);
        }
        return month ? children.monthOf(row) : children.fateOf(row);
    }

    public long deposit(int kind, int child, int other, int sum, int holder) {
        if (!isDepositKind(kind) || !children.has(child) || kind == JOINT && !children.has(other)) {
            return findings.answer(BEYOND);
        }
        if (!isHolder(holder) || !isWithin(sum, 1, MOST_SUM)) {
            return findings.answer(BEYOND);
        }
        if (kind == JOINT && child == other) {
            return findings.answer(KIND);
        }
        if (hasFateNow(child) || kind == JOINT && hasFateNow(other)) {
            return findings.answer(STATE);
        }
        if (deposits.isFull()) {
            return findings.answer(FULL);
        }
        int term = decrees.inForce(TERM, now, now);
        Deposit made = new Deposit(kind, child, other, now, holder);
        made.setTerms(sum, dowryFor(sum, term), now + term);
        deposits.add(made);
        return deposits.size - 1;
    }

    public long about(int deposit, int what) {
        Deposit d = deposits.find(deposit);
        if (d == null || !isWithin(what, 0, 8)) {
            return findings.answer(BEYOND);
        }
        if (what == 2 && d.kind != JOINT) {
            return findings.answer(NONE);
        }
        return d.tellOf(what);
    }

    public long as(int deposit, int kind) {
        Deposit d = deposits.find(deposit);
        if (d == null || !isDepositKind(kind)) {
            return findings.answer(BEYOND);
        }
        if (kind != PLAIN && kind != d.kind) {
            return findings.answer(KIND);
        }
        return d.sum;
    }

    public long sell(int deposit, int holder) {
        Deposit d = deposits.find(deposit);
        if (d == null || !isHolder(holder)) {
            return findings.answer(BEYOND);
        }
        if (d.paidOut) {
            return findings.answer(STATE);
        }
        int before = d.latestHolder();
        if (before == holder) {
            return findings.answer(KIND);
        }
        if (!d.maySellIn(now)) {
            return findings.answer(FULL);
        }
        d.handTo(holder, now);
        return before;
    }

    public long holder(int deposit, int month) {
        Deposit d = deposits.find(deposit);
        if (d == null || !isMonth(month)) {
            return findings.answer(BEYOND);
        }
        if (month < d.made) {
            return findings.answer(NONE);
        }
        return d.holderIn(month);
    }

    // ---- what is due

    public long due(int deposit, int known, int what) {
        Deposit d = deposits.find(deposit);
        if (d == null || !isMonth(known) || !isWithin(what, 0, 3)) {
            return findings.answer(BEYOND);
        }
        int row = dues.fallRow(d, known);
        if (row == NO_ROW) {
            return findings.answer(NONE);
        }
        switch (what) {
            case 0:
                return children.monthOf(row);
            case 1:
                return dues.dueMonth(row, known);
            case 2:
                return dues.dueSum(d, row, known);
            default:
                return children.fateOf(row);
        }
    }

    public long foretold(int month) {
        if (!isMonth(month)) {
            return findings.answer(BEYOND);
        }
        long all = 0;
        for (int i = 0; i < deposits.size; i++) {
            Deposit d = deposits.find(i);
            int row = dues.fallRow(d, month);
            if (row != NO_ROW && dues.dueMonth(row, month) == month) {
                all += dues.dueSum(d, row, month);
            }
        }
        return all;
    }

    // ---- the purse

    public long income(int v) {
        if (!isWithin(v, 0, MOST_INCOME)) {
            return findings.answer(BEYOND);
        }
        if (purse.has + v > MOST_IN_PURSE) {
            return findings.answer(FULL);
        }
        purse.has += v;
        purse.came += v;
        return purse.has;
    }

    public long purse(int what) {
        switch (what) {
            case 0:
                return purse.has;
            case 1:
                return purse.came;
            case 2:
                return purse.spent;
            case 3:
                return roll.owed;
            case 4:
                return roll.size;
            case 5:
                return deposits.countPaidOut();
            default:
                return findings.answer(BEYOND);
        }
    }

    public long paid(int holder) {
        if (!isHolder(holder)) {
            return findings.answer(BEYOND);
        }
        return purse.paidTo[holder];
    }

    // ---- lives

    public long lives(int age, int die, int wed, int veil) {
        if (!Lives.isAge(age) || !Lives.mayGo(die, wed, veil)) {
            return findings.answer(BEYOND);
        }
        tables.set(age, die, wed, veil);
        return Lives.THOUSAND - die - wed - veil;
    }

    public long value(int a, int e, int d) {
        if (!Lives.isSpan(a, e) || !isWithin(d, 0, MOST_VALUED_DOWRY)) {
            return findings.answer(BEYOND);
        }
        return d * tables.wedBetween(a, e) / Lives.SURE_ONES;
    }

    public long left(int a, int e) {
        if (!Lives.isSpan(a, e)) {
            return findings.answer(BEYOND);
        }
        return tables.stillThere(a, e);
    }

    // ---- what is told

    public long tell(int v) {
        if (waiting.isFull()) {
            return findings.answer(FULL);
        }
        waiting.add(v);
        return waiting.size;
    }

    public long check() {
        int answer = compareWaiting();
        waiting.size = 0;
        return answer;
    }

    public long count(int what) {
        switch (what) {
            case 0:
                return now;
            case 1:
                return decrees.size;
            case 2:
                return children.size;
            case 3:
                return children.fateCount;
            case 4:
                return deposits.size;
            case 5:
                return waiting.size;
            default:
                return findings.answer(BEYOND);
        }
    }

    public long found(int k) {
        if (!isWithin(k, BEYOND, KIND)) {
            return findings.answer(BEYOND);
        }
        return findings.times[k];
    }

    // ---- helpers

    private static boolean isWithin(int x, int least, int most) {
        return x >= least && x <= most;
    }

    private static boolean isMonth(int month) {
        return isWithin(month, 0, LAST_MONTH);
    }

    private static boolean isHolder(int holder) {
        return isWithin(holder, 0, HOLDERS - 1);
    }

    private static boolean isDepositKind(int kind) {
        return isWithin(kind, PLAIN, CONVENT);
    }

    private static long thousandths(long of, int how) {
        return of * how / 1000;
    }

    private boolean hasFateNow(int child) {
        return children.fateRow(child, now) != NO_ROW;
    }

    private long dowryFor(int sum, int term) {
        int years = Math.min(MOST_YEARS, term / MONTHS_OF_A_YEAR);
        int rate = isWithin(years, 1, MOST_YEARS) ? rates[years] : LEAST_RATE;
        return (long) sum * rate / 100;
    }

    /** A wrong number counts ahead of numbers too many: the first difference is told. */
    private int compareWaiting() {
        for (int i = 0; i < deposits.size; i++) {
            if (i >= waiting.size || waiting.numbers[i] != dueNow(deposits.find(i))) {
                return 1 + i;
            }
        }
        return waiting.size > deposits.size ? MORE_WERE_TOLD : 0;
    }

    private long dueNow(Deposit d) {
        int row = dues.fallRow(d, now);
        return row == NO_ROW ? 0 : dues.dueSum(d, row, now);
    }

    /** How often each finding was answered. */
    private static final class Findings {
        final int[] times = new int[KIND + 1];

        long answer(int finding) {
            if (isWithin(finding, BEYOND, KIND)) {
                times[finding]++;
            }
            return LOW - finding;
        }
    }

    /** The decrees in the order in which they were told. */
    private static final class Decrees {
        private static final int MOST = 60;
        private static final int[] LEAST_VALUE = {0, 0, 0, 0, 0, 12};
        private static final int[] MOST_VALUE = {60, 1000, 1000, 1000, 1000, 240};
        private static final int[] WITHOUT_ONE = {0, 500, 400, 0, 0, 180};

        final int[] kinds = new int[MOST];
        final int[] froms = new int[MOST];
        final int[] values = new int[MOST];
        final int[] toldIn = new int[MOST];
        int size = 0;

        static boolean isKind(int kind) {
            return isWithin(kind, DELAY, TERM);
        }

        static boolean mayBe(int kind, int value) {
            return isKind(kind) && isWithin(value, LEAST_VALUE[kind], MOST_VALUE[kind]);
        }

        boolean isFull() {
            return size >= MOST;
        }

        void add(int kind, int from, int value, int month) {
            if (isFull()) {
                return;
            }
            kinds[size] = kind;
            froms[size] = from;
            values[size] = value;
            toldIn[size] = month;
            size++;
        }

        /** The month may be behind the last one: a claim's due month may be. */
        int inForce(int kind, int month, int known) {
            int found = isKind(kind) ? WITHOUT_ONE[kind] : 0;
            int latest = 0;
            for (int i = 0; i < size && i < MOST; i++) {
                boolean holds = kinds[i] == kind && toldIn[i] <= known && froms[i] <= month;
                if (holds && froms[i] >= latest) {
                    found = values[i];
                    latest = froms[i];
                }
            }
            return found;
        }
    }

    /** The children, and their fates in the order in which these were told. */
    private static final class Children {
        private static final int MOST = 30;
        private static final int MOST_FATES = 90;

        final int[] births = new int[MOST];
        int size = 0;
        final int[] fateChildren = new int[MOST_FATES];
        final int[] fates = new int[MOST_FATES];
        final int[] fateMonths = new int[MOST_FATES];
        final int[] toldIn = new int[MOST_FATES];
        int fateCount = 0;

        boolean has(int child) {
            return child >= 0 && child < size;
        }

        boolean isFull() {
            return size >= MOST;
        }

        void add(int birth) {
            if (isFull()) {
                return;
            }
            births[size] = birth;
            size++;
        }

        int birthOf(int child) {
            return isWithin(child, 0, MOST - 1) ? births[child] : 0;
        }

        boolean areFatesFull() {
            return fateCount >= MOST_FATES;
        }

        void addFate(int child, int fate, int month, int now) {
            if (areFatesFull()) {
                return;
            }
            fateChildren[fateCount] = child;
            fates[fateCount] = fate;
            fateMonths[fateCount] = month;
            toldIn[fateCount] = now;
            fateCount++;
        }

        /** The row of her fate as known in a month, or NO_ROW: what was undone is none. */
        int fateRow(int child, int known) {
            for (int i = Math.min(fateCount, MOST_FATES) - 1; i >= 0; i--) {
                if (fateChildren[i] == child && toldIn[i] <= known) {
                    return fates[i] == UNDONE ? NO_ROW : i;
                }
            }
            return NO_ROW;
        }

        int fateOf(int row) {
            return isWithin(row, 0, MOST_FATES - 1) ? fates[row] : UNDONE;
        }

        int monthOf(int row) {
            return isWithin(row, 0, MOST_FATES - 1) ? fateMonths[row] : 0;
        }
    }

    /** One deposit, who held it from which month on, and how it stands with the roll. */
    private static final class Deposit {
        /** Behind every month in which a claim may be due. */
        private static final int NEVER = 1000000;
        /** The first holder and six months in which it was sold. */
        private static final int MOST_HOLDERS = 7;

        final int kind;
        final int child;
        final int other;
        final int made;
        int sum;
        long dowry;
        int end;
        final int[] holders = new int[MOST_HOLDERS];
        final int[] heldFrom = new int[MOST_HOLDERS];
        int lastHolder = 0;
        long received = 0;
        boolean paidOut = false;
        int dueMonth = NEVER;
        long dueSum = 0;
        boolean onRoll = false;
        long owed = 0;

        Deposit(int kind, int child, int other, int made, int holder) {
            this.kind = kind;
            this.child = child;
            this.other = other;
            this.made = made;
            holders[0] = holder;
            heldFrom[0] = made;
        }

        void setTerms(int sum, long dowry, int end) {
            this.sum = sum;
            this.dowry = dowry;
            this.end = end;
        }

        long tellOf(int what) {
            switch (what) {
                case 0:
                    return kind;
                case 1:
                    return child;
                case 2:
                    return other;
                case 3:
                    return sum;
                case 4:
                    return dowry;
                case 5:
                    return end;
                case 6:
                    return made;
                case 7:
                    return received;
                default:
                    return paidOut ? 1 : 0;
            }
        }

        int lastRow() {
            return Math.max(0, Math.min(lastHolder, MOST_HOLDERS - 1));
        }

        int latestHolder() {
            return holders[lastRow()];
        }

        int holderIn(int month) {
            int row = lastRow();
            while (row > 0 && heldFrom[row] > month) {
                row--;
            }
            return holders[row];
        }

        boolean cameIn(int month) {
            return heldFrom[lastRow()] == month;
        }

        boolean maySellIn(int month) {
            return cameIn(month) || lastHolder < MOST_HOLDERS - 1;
        }

        void handTo(int holder, int month) {
            if (!maySellIn(month)) {
                return;
            }
            if (!cameIn(month)) {
                lastHolder++;
            }
            holders[lastRow()] = holder;
            heldFrom[lastRow()] = month;
        }

        /** Once paid out it stays so, and comes to no roll again. */
        void comeToRoll(int month) {
            onRoll = !paidOut && dueMonth <= month;
            owed = onRoll ? Math.max(0L, dueSum - received) : 0;
        }
    }

    /** The deposits in the order in which they were made. */
    private static final class Deposits {
        private static final int MOST = 30;

        final Deposit[] rows = new Deposit[MOST];
        int size = 0;

        boolean isFull() {
            return size >= MOST;
        }

        void add(Deposit d) {
            if (isFull()) {
                return;
            }
            rows[size] = d;
            size++;
        }

        /** The deposit, or null if there is no such one. */
        Deposit find(int deposit) {
            return deposit >= 0 && deposit < size && deposit < MOST ? rows[deposit] : null;
        }

        int countPaidOut() {
            int n = 0;
            for (int i = 0; i < size; i++) {
                Deposit d = find(i);
                if (d != null && d.paidOut) {
                    n++;
                }
            }
            return n;
        }
    }

    /** By which fate a deposit falls, when it is due and how much, all as known in a month. */
    private static final class Dues {
        final Decrees decrees;
        final Children children;

        Dues(Decrees decrees, Children children) {
            this.decrees = decrees;
            this.children = children;
        }

        /** The row of the fate by which it falls, or NO_ROW: it doesn't, or wasn't made by then. */
        int fallRow(Deposit d, int known) {
            if (d == null || known < d.made) {
                return NO_ROW;
            }
            int first = rowFor(d.child, d.made, known);
            return d.kind == JOINT ? ahead(first, rowFor(d.other, d.made, known)) : first;
        }

        private int rowFor(int child, int made, int known) {
            int row = children.fateRow(child, known);
            return row != NO_ROW && children.monthOf(row) < made ? NO_ROW : row;
        }

        private int ahead(int first, int other) {
            if (first == NO_ROW || other == NO_ROW) {
                return first == NO_ROW ? other : first;
            }
            boolean firstWeds = children.fateOf(first) == WEDS;
            boolean otherWeds = children.fateOf(other) == WEDS;
            if (firstWeds != otherWeds) {
                return firstWeds ? first : other;
            }
            return children.monthOf(other) < children.monthOf(first) ? other : first;
        }

        int dueMonth(int row, int known) {
            int fallen = children.monthOf(row);
            return fallen + decrees.inForce(DELAY, fallen, known);
        }

        /** What is taken is cut, not what stays. */
        long dueSum(Deposit d, int row, int known) {
            long whole = beforeCut(d, row, known);
            return whole - thousandths(whole, decrees.inForce(CUT, dueMonth(row, known), known));
        }

        private long beforeCut(Deposit d, int row, int known) {
            if (d == null) {
                return 0;
            }
            int fate = children.fateOf(row);
            int fallen = children.monthOf(row);
            if (fate == DIES) {
                return thousandths(d.sum, decrees.inForce(DEATH, fallen, known));
            }
            if (fate == VEILED && d.kind != CONVENT) {
                return thousandths(d.dowry, decrees.inForce(VEIL, fallen, known));
            }
            if (fallen >= d.end) {
                return d.dowry;
            }
            return thousandths(d.dowry, decrees.inForce(EARLY, fallen, known));
        }
    }

    /** The money, and to whom it went. */
    private static final class Purse {
        long has = 0;
        long came = 0;
        long spent = 0;
        final long[] paidTo = new long[HOLDERS];

        void pay(Deposit d, long sum) {
            has -= sum;
            spent += sum;
            d.received += sum;
            d.owed -= sum;
            int holder = d.latestHolder();
            if (isHolder(holder)) {
                paidTo[holder] += sum;
            }
        }
    }

    /** The roll of the latest month that went: each month that goes writes it anew. */
    private static final class Roll {
        final Deposits deposits;
        final Purse purse;
        long owed = 0;
        int size = 0;

        Roll(Deposits deposits, Purse purse) {
            this.deposits = deposits;
            this.purse = purse;
        }

        /** While months go nothing is told, so what is known now holds for each of them. */
        void learn(Dues dues, int known) {
            for (int i = 0; i < deposits.size; i++) {
                Deposit d = deposits.find(i);
                if (d == null) {
                    continue;
                }
                int row = dues.fallRow(d, known);
                d.dueMonth = row == NO_ROW ? Deposit.NEVER : dues.dueMonth(row, known);
                d.dueSum = row == NO_ROW ? 0 : dues.dueSum(d, row, known);
            }
        }

        void payFor(int month) {
            call(month);
            if (purse.has >= owed) {
                payWhole();
            } else {
                payShares(purse.has, owed);
                payLeftOver();
            }
            close();
        }

        private void call(int month) {
            owed = 0;
            size = 0;
            for (int i = 0; i < deposits.size; i++) {
                Deposit d = deposits.find(i);
                if (d == null) {
                    continue;
                }
                d.comeToRoll(month);
                owed += d.owed;
                size += d.onRoll ? 1 : 0;
            }
        }

        private void payWhole() {
            for (int i = 0; i < deposits.size; i++) {
                Deposit d = deposits.find(i);
                if (d != null) {
                    payTo(d, d.owed);
                }
            }
        }

        private void payShares(long inPurse, long inAll) {
            for (int i = 0; i < deposits.size; i++) {
                Deposit d = deposits.find(i);
                if (d != null && inAll > 0) {
                    payTo(d, d.owed * inPurse / inAll);
                }
            }
        }

        /** Less is left over than there are claims still owed something: one round is enough. */
        private void payLeftOver() {
            for (int i = 0; i < deposits.size && purse.has > 0; i++) {
                payTo(deposits.find(i), 1);
            }
        }

        private void payTo(Deposit d, long most) {
            if (d == null || !d.onRoll) {
                return;
            }
            long sum = Math.min(most, d.owed);
            purse.pay(d, sum);
            owed -= sum;
        }

        private void close() {
            for (int i = 0; i < deposits.size; i++) {
                Deposit d = deposits.find(i);
                if (d != null && d.onRoll && d.owed == 0) {
                    d.paidOut = true;
                }
            }
        }
    }

    /** The tables of lives: of each age, thousandths that go within the year. */
    private static final class Lives {
        private static final int THOUSAND = 1000;
        private static final long SURE_ONES = 1000000;
        private static final int LAST_AGE = 20;

        final int[] dying = new int[LAST_AGE + 1];
        final int[] wedding = new int[LAST_AGE + 1];
        final int[] veiling = new int[LAST_AGE + 1];

        static boolean isAge(int age) {
            return isWithin(age, 0, LAST_AGE);
        }

        static boolean isSpan(int a, int e) {
            return isAge(a) && isWithin(e, a, LAST_AGE + 1);
        }

        static boolean mayGo(int die, int wed, int veil) {
            return die >= 0 && wed >= 0 && veil >= 0 && (long) die + wed + veil <= THOUSAND;
        }

        void set(int age, int die, int wed, int veil) {
            if (!isAge(age)) {
                return;
            }
            dying[age] = die;
            wedding[age] = wed;
            veiling[age] = veil;
        }

        long stillThere(int a, int e) {
            long there = SURE_ONES;
            for (int age = Math.max(0, a); age < e && age <= LAST_AGE; age++) {
                there = afterYear(there, age);
            }
            return there;
        }

        long wedBetween(int a, int e) {
            long there = SURE_ONES;
            long wed = 0;
            for (int age = Math.max(0, a); age < e && age <= LAST_AGE; age++) {
                wed += thousandths(there, wedding[age]);
                there = afterYear(there, age);
            }
            return wed;
        }

        private long afterYear(long there, int age) {
            if (!isAge(age)) {
                return there;
            }
            return there - thousandths(there, dying[age]) - thousandths(there, wedding[age])
                    - thousandths(there, veiling[age]);
        }
    }

    /** The numbers that wait for a check. */
    private static final class Waiting {
        private static final int MOST = 30;

        final int[] numbers = new int[MOST];
        int size = 0;

        boolean isFull() {
            return size >= MOST;
        }

        void add(int v) {
            if (isFull()) {
                return;
            }
            numbers[size] = v;
            size++;
        }
    }
}
