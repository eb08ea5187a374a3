import java.util.ArrayList;
import java.util.Arrays;
import java.util.List;

/**
 * The document told a second time, in another way: all that was told is kept in one list, and every
 * answer is found anew from it, month by month, without anything that is worked out ahead.
 */
final class PlainFund {
    record Decree(int kind, int from, int value, int told) { }

    record Fate(int child, int fate, int month, int told) { }

    record Sale(int month, int holder) { }

    static final class Claim {
        int kind, child, other, sum, made, term, dowry;
        long paid;
        boolean out;
        final List<Sale> sales = new ArrayList<>();

        int holderIn(int month) {
            int holder = -1;
            for (Sale s : sales) {
                if (s.month <= month) {
                    holder = s.holder;
                }
            }
            return holder;
        }
    }

    final List<Decree> decrees = new ArrayList<>();
    final List<Fate> fates = new ArrayList<>();
    final List<Integer> births = new ArrayList<>();
    final List<Claim> claims = new ArrayList<>();
    final List<Integer> waiting = new ArrayList<>();
    final int[] rates = new int[21];
    final int[][] tables = new int[21][3];
    final long[] paidTo = new long[10];
    final long[] found = new long[6];
    int now = 0;
    long purse = 0, came = 0, spent = 0, unpaid = 0, onRoll = 0;

    PlainFund() {
        Arrays.fill(rates, 100);
    }

    private long finding(int k) {
        found[k]++;
        return -1000000000000L - k;
    }

    private static boolean out(long x, long least, long most) {
        return x < least || x > most;
    }

    private int inForce(int kind, int month, int known) {
        return decrees.stream()
            .filter(d -> d.kind == kind && d.told <= known && d.from <= month)
            .reduce((a, b) -> b.from >= a.from ? b : a)
            .map(Decree::value)
            .orElse(new int[] {0, 500, 400, 0, 0, 180}[kind]);
    }

    private Fate fateOf(int child, int known) {
        Fate last = fates.stream()
            .filter(f -> f.child == child && f.told <= known)
            .reduce((a, b) -> b)
            .orElse(null);
        return last == null || last.fate == 3 ? null : last;
    }

    private Fate fall(Claim c, int known) {
        if (c.made > known) {
            return null;
        }
        List<Fate> of = new ArrayList<>();
        of.add(fateOf(c.child, known));
        if (c.kind == 1) {
            of.add(fateOf(c.other, known));
        }
        of.removeIf(f -> f == null || f.month < c.made);
        // the sort keeps the first child ahead of the other one where both are alike
        of.sort((a, b) -> (a.fate == 0) != (b.fate == 0) ? (a.fate == 0 ? -1 : 1) : Integer.compare(a.month, b.month));
        return of.isEmpty() ? null : of.get(0);
    }

    private int dueMonth(Fate f, int known) {
        return f.month + inForce(0, f.month, known);
    }

    private long dueSum(Claim c, Fate f, int known) {
        boolean asWed = f.fate == 0 || f.fate == 1 && c.kind == 2;
        long all;
        if (asWed) {
            all = f.month >= c.made + c.term ? c.dowry : (long) c.dowry * inForce(3, f.month, known) / 1000;
        } else if (f.fate == 1) {
            all = (long) c.dowry * inForce(2, f.month, known) / 1000;
        } else {
            all = (long) c.sum * inForce(1, f.month, known) / 1000;
        }
        return all - all * inForce(4, dueMonth(f, known), known) / 1000;
    }

    private void goMonth() {
        List<Claim> roll = new ArrayList<>();
        List<Long> owed = new ArrayList<>();
        long all = 0;
        for (Claim c : claims) {
            Fate f = fall(c, now);
            if (!c.out && f != null && dueMonth(f, now) <= now) {
                long o = Math.max(0, dueSum(c, f, now) - c.paid);
                roll.add(c);
                owed.add(o);
                all += o;
            }
        }
        long[] part = new long[roll.size()];
        long given = 0;
        for (int i = 0; i < part.length; i++) {
            part[i] = purse >= all ? owed.get(i) : owed.get(i) * purse / all;
            given += part[i];
        }
        for (int i = 0; i < part.length && purse < all && given < purse; i++) {
            if (part[i] < owed.get(i)) {
                part[i]++;
                given++;
            }
        }
        for (int i = 0; i < part.length; i++) {
            Claim c = roll.get(i);
            c.paid += part[i];
            c.out = part[i] == owed.get(i);
            paidTo[c.holderIn(now)] += part[i];
        }
        purse -= given;
        spent += given;
        unpaid = all - given;
        onRoll = roll.size();
        now++;
    }

    long months(int n) {
        if (out(n, 1, 240) || now + n > 1199) {
            return finding(1);
        }
        for (int i = 0; i < n; i++) {
            goMonth();
        }
        return now;
    }

    long decree(int kind, int from, int value) {
        if (out(kind, 0, 5) || out(from, 0, 1199)) {
            return finding(1);
        }
        if (out(value, kind == 5 ? 12 : 0, kind == 0 ? 60 : kind == 5 ? 240 : 1000)) {
            return finding(1);
        }
        if (decrees.size() == 60) {
            return finding(4);
        }
        decrees.add(new Decree(kind, from, value, now));
        return decrees.size();
    }

    long force(int kind, int month, int known) {
        if (out(kind, 0, 5) || out(month, 0, 1199) || out(known, 0, 1199)) {
            return finding(1);
        }
        return inForce(kind, month, known);
    }

    long rate(int years, int v) {
        if (out(years, 1, 20) || out(v, 100, 1000)) {
            return finding(1);
        }
        int was = rates[years];
        rates[years] = v;
        return was;
    }

    long child(int month) {
        if (out(month, 0, now)) {
            return finding(1);
        }
        if (births.size() == 30) {
            return finding(4);
        }
        births.add(month);
        return births.size() - 1;
    }

    private boolean noChild(int child) {
        return out(child, 0, births.size() - 1);
    }

    private boolean noClaim(int deposit) {
        return out(deposit, 0, claims.size() - 1);
    }

    long fate(int child, int fate, int month) {
        if (noChild(child) || out(fate, 0, 3) || fate != 3 && out(month, births.get(child), 1199)) {
            return finding(1);
        }
        if (fates.size() == 90) {
            return finding(4);
        }
        fates.add(new Fate(child, fate, month, now));
        return fates.size();
    }

    long told(int child, int known, boolean month) {
        if (noChild(child) || out(known, 0, 1199)) {
            return finding(1);
        }
        Fate f = fateOf(child, known);
        return f == null ? finding(2) : month ? f.month : f.fate;
    }

    long deposit(int kind, int child, int other, int sum, int holder) {
        if (out(kind, 0, 2) || noChild(child) || kind == 1 && noChild(other)) {
            return finding(1);
        }
        if (out(sum, 1, 10000) || out(holder, 0, 9)) {
            return finding(1);
        }
        if (kind == 1 && child == other) {
            return finding(5);
        }
        if (fateOf(child, now) != null || kind == 1 && fateOf(other, now) != null) {
            return finding(3);
        }
        if (claims.size() == 30) {
            return finding(4);
        }
        Claim c = new Claim();
        c.kind = kind;
        c.child = child;
        c.other = other;
        c.sum = sum;
        c.made = now;
        c.term = inForce(5, now, now);
        c.dowry = sum * rates[c.term / 12] / 100;
        c.sales.add(new Sale(now, holder));
        claims.add(c);
        return claims.size() - 1;
    }

    long about(int deposit, int what) {
        if (noClaim(deposit) || out(what, 0, 8)) {
            return finding(1);
        }
        Claim c = claims.get(deposit);
        if (what == 2 && c.kind != 1) {
            return finding(2);
        }
        long[] all = {c.kind, c.child, c.other, c.sum, c.dowry, c.made + c.term, c.made, c.paid, c.out ? 1 : 0};
        return all[what];
    }

    long as(int deposit, int kind) {
        if (noClaim(deposit) || out(kind, 0, 2)) {
            return finding(1);
        }
        Claim c = claims.get(deposit);
        return kind == 0 || kind == c.kind ? c.sum : finding(5);
    }

    long sell(int deposit, int holder) {
        if (noClaim(deposit) || out(holder, 0, 9)) {
            return finding(1);
        }
        Claim c = claims.get(deposit);
        if (c.out) {
            return finding(3);
        }
        int had = c.holderIn(now);
        if (had == holder) {
            return finding(5);
        }
        long soldIn = c.sales.stream().mapToInt(Sale::month).filter(m -> m != c.made).distinct().count();
        boolean here = c.sales.stream().anyMatch(s -> s.month == now);
        if (soldIn == 6 && !here) {
            return finding(4);
        }
        c.sales.removeIf(s -> s.month == now);
        c.sales.add(new Sale(now, holder));
        return had;
    }

    long holder(int deposit, int month) {
        if (noClaim(deposit) || out(month, 0, 1199)) {
            return finding(1);
        }
        Claim c = claims.get(deposit);
        return month < c.made ? finding(2) : c.holderIn(month);
    }

    long due(int deposit, int known, int what) {
        if (noClaim(deposit) || out(known, 0, 1199) || out(what, 0, 3)) {
            return finding(1);
        }
        Claim c = claims.get(deposit);
        Fate f = fall(c, known);
        if (f == null) {
            return finding(2);
        }
        return new long[] {f.month, dueMonth(f, known), dueSum(c, f, known), f.fate}[what];
    }

    long foretold(int month) {
        if (out(month, 0, 1199)) {
            return finding(1);
        }
        long all = 0;
        for (Claim c : claims) {
            Fate f = fall(c, month);
            all += f != null && dueMonth(f, month) == month ? dueSum(c, f, month) : 0;
        }
        return all;
    }

    long income(int v) {
        if (out(v, 0, 1000000)) {
            return finding(1);
        }
        if (purse + v > 1000000000) {
            return finding(4);
        }
        purse += v;
        came += v;
        return purse;
    }

    long purse(int what) {
        if (out(what, 0, 5)) {
            return finding(1);
        }
        return new long[] {purse, came, spent, unpaid, onRoll, claims.stream().filter(c -> c.out).count()}[what];
    }

    long paid(int holder) {
        return out(holder, 0, 9) ? finding(1) : paidTo[holder];
    }

    long lives(int age, int die, int wed, int veil) {
        if (out(age, 0, 20) || die < 0 || wed < 0 || veil < 0 || 0L + die + wed + veil > 1000) {
            return finding(1);
        }
        tables[age] = new int[] {die, wed, veil};
        return 1000 - die - wed - veil;
    }

    /** Element 0: who are there at age e; 1: who wed. */
    private long[] live(int a, int e) {
        if (a >= e) {
            return new long[] {1000000, 0};
        }
        long[] before = live(a, e - 1);
        int[] t = tables[e - 1];
        long wed = before[0] * t[1] / 1000;
        return new long[] {before[0] - before[0] * t[0] / 1000 - wed - before[0] * t[2] / 1000, before[1] + wed};
    }

    long value(int a, int e, int d) {
        if (out(a, 0, 20) || out(e, a, 21) || out(d, 0, 100000)) {
            return finding(1);
        }
        return d * live(a, e)[1] / 1000000;
    }

    long left(int a, int e) {
        return out(a, 0, 20) || out(e, a, 21) ? finding(1) : live(a, e)[0];
    }

    long tell(int v) {
        if (waiting.size() == 30) {
            return finding(4);
        }
        waiting.add(v);
        return waiting.size();
    }

    long check() {
        List<Integer> numbers = new ArrayList<>(waiting);
        waiting.clear();
        for (int k = 0; k < claims.size(); k++) {
            Fate f = fall(claims.get(k), now);
            long want = f == null ? 0 : dueSum(claims.get(k), f, now);
            if (k >= numbers.size() || numbers.get(k) != want) {
                return 1 + k;
            }
        }
        return numbers.size() > claims.size() ? 99 : 0;
    }

    long count(int what) {
        if (out(what, 0, 5)) {
            return finding(1);
        }
        int[] all = {now, decrees.size(), births.size(), fates.size(), claims.size(), waiting.size()};
        return all[what];
    }

    long found(int k) {
        return out(k, 1, 5) ? finding(1) : found[k];
    }
}
