import java.util.ArrayList;
import java.util.List;

/**
 * Two funds that are told the same. A call that must be refused is tried on the first alone: whatever
 * else it changed shows when both are asked all there is to ask.
 */
final class Twins {
    /** A call on a fund. */
    interface Act {
        long on(DowryFund x);
    }

    private static final int LAST_MONTH = 1199;

    private final Expect expect;
    private final String sentence;
    private final DowryFund tried = new DowryFund();
    private final DowryFund spared = new DowryFund();
    private final long[] refused = new long[6];

    /** The sentence of the document that is looked at stands ahead of what is printed. */
    Twins(Expect expect, String sentence) {
        this.expect = expect;
        this.sentence = sentence;
    }

    /** What isn't looked at here, but must stand first. */
    void given(Act... acts) {
        for (Act act : acts) {
            act.on(tried);
            act.on(spared);
        }
    }

    void answers(long want, Act act) {
        String text = sentence + " (" + lineOfTest() + ")";
        expect.is(text, act.on(tried), want);
        expect.is(text, act.on(spared), want);
    }

    /** All of them answer this finding, each counted. */
    void refuses(long finding, Act... acts) {
        String text = sentence + " (" + lineOfTest() + ")";
        for (int i = 0; i < acts.length; i++) {
            expect.is(text + " act " + i, acts[i].on(tried), finding);
            refused[(int) (Expect.BEYOND + 1 - finding)]++;
        }
    }

    /** The last call on both: nothing but what found() tells differs by what was refused. */
    void stayAlike() {
        String text = sentence + " (" + lineOfTest() + ")";
        findingsDifferAsRefused(text + " found ");
        List<Long> want = tour(spared);
        List<Long> got = tour(tried);
        expect.is(text + " tour", got.size(), want.size());
        for (int i = 0; i < Math.min(got.size(), want.size()); i++) {
            expect.is(text + " tour's answer " + i, got.get(i), want.get(i));
        }
        findingsDifferAsRefused(text + " found behind the tour ");
    }

    private void findingsDifferAsRefused(String text) {
        for (int k = 1; k <= 5; k++) {
            expect.is(text + k, tried.found(k) - spared.found(k), refused[k]);
        }
    }

    private static String lineOfTest() {
        return StackWalker.getInstance().walk(frames -> frames
            .filter(f -> f.getClassName().endsWith("Test")).findFirst()
            .map(f -> f.getClassName() + " " + f.getLineNumber()).orElse("?"));
    }

    private static List<Long> tour(DowryFund x) {
        List<Long> all = new ArrayList<>();
        for (int what = 0; what <= 5; what++) {
            all.add(x.count(what));
            all.add(x.purse(what));
        }
        for (int holder = 0; holder <= 9; holder++) {
            all.add(x.paid(holder));
        }
        int now = (int) x.count(0);
        askTerms(x, now, all);
        askChildren(x, now, all);
        askDeposits(x, now, all);
        askLives(x, all);
        all.add(x.check());
        for (int years = 1; years <= 20; years++) {
            all.add(x.rate(years, 100));
        }
        goOn(x, now, all);
        return all;
    }

    private static void askTerms(DowryFund x, int now, List<Long> all) {
        int[] months = {0, now, LAST_MONTH};
        for (int month : months) {
            all.add(x.foretold(month));
            for (int kind = 0; kind <= 5; kind++) {
                all.add(x.force(kind, month, now));
            }
        }
    }

    /** Of rows that may be full the first and the last are enough, and keep a run below 512 calls. */
    private static int[] ends(long size) {
        if (size == 0) {
            return new int[0];
        }
        return size == 1 ? new int[] {0} : new int[] {0, (int) size - 1};
    }

    private static void askChildren(DowryFund x, int now, List<Long> all) {
        for (int child : ends(x.count(2))) {
            for (int known : new int[] {0, now, LAST_MONTH}) {
                all.add(x.told(child, known, false));
                all.add(x.told(child, known, true));
            }
        }
    }

    private static void askDeposits(DowryFund x, int now, List<Long> all) {
        for (int deposit : ends(x.count(4))) {
            for (int what = 0; what <= 8; what++) {
                all.add(x.about(deposit, what));
            }
            for (int what = 0; what <= 3; what++) {
                all.add(x.due(deposit, now, what));
            }
            for (int month : new int[] {0, now, LAST_MONTH}) {
                all.add(x.holder(deposit, month));
            }
        }
    }

    private static void askLives(DowryFund x, List<Long> all) {
        for (int age = 0; age <= 20; age++) {
            all.add(x.left(age, age + 1));
            all.add(x.value(age, age + 1, 100000));
        }
    }

    /** What comes of it: the next month's roll, and who takes part in a sale then. */
    private static void goOn(DowryFund x, int now, List<Long> all) {
        all.add(x.income(7));
        all.add(x.months(1));
        for (int what = 0; what <= 5; what++) {
            all.add(x.purse(what));
        }
        for (int deposit : ends(x.count(4))) {
            all.add(x.about(deposit, 7));
            all.add(x.sell(deposit, 9));
            all.add(x.holder(deposit, now));
        }
    }
}
