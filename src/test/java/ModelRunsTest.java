import java.util.Arrays;

/** Long runs of made-up calls, the same ones every time, against the plain model: all promises at once. */
public final class ModelRunsTest {
    private static final Check CHECK = new Check();
    private static final int RUNS = 2400;
    private static final int CALLS = 512;
    /** A run is told with all its calls: more of them would hide the first one. */
    private static final int MOST_WRONG_RUNS = 3;

    private static long seed;

    public static void main(String[] args) {
        int wrong = 0;
        for (int run = 0; run < RUNS && wrong < MOST_WRONG_RUNS; run++) {
            seed = run * 7919L + 1;
            wrong += isGood(run) ? 0 : 1;
        }
        CHECK.end();
    }

    private static boolean isGood(int run) {
        int axes = run % 6;
        NearTree tree = new NearTree(axes);
        PlainModel model = new PlainModel(axes);
        Style style = new Style(run / 6);
        StringBuilder told = new StringBuilder();
        for (int call = 0; call < CALLS; call++) {
            long[] c = style.next(call);
            String due = model.answer(c);
            String got = answer(tree, c);
            told.append(Arrays.toString(c)).append(" -> ").append(got).append('\n');
            CHECK.is("run " + run + ", call " + call, got.equals(due) ? 0 : 1, 0);
            if (!got.equals(due)) {
                CHECK.fail("due is " + due + " at the end of NearTree(" + axes + "):\n" + told);
                return false;
            }
        }
        return true;
    }

    private static int below(int bound) {
        seed = seed * 6364136223846793005L + 1442695040888963407L;
        return (int) ((seed >>> 33) % bound);
    }

    private static String answer(NearTree tree, long[] c) {
        try {
            return String.valueOf(call(tree, c));
        } catch (RuntimeException e) {
            return e.getClass().getSimpleName();
        }
    }

    private static long call(NearTree t, long[] c) {
        int[] n = new int[c.length];
        for (int i = 0; i < c.length; i++) {
            n[i] = (int) c[i];
        }
        switch (n[0]) {
            case PlainModel.PUT: return t.put(n[1], n[2], n[3], n[4], n[5]);
            case PlainModel.DROP: return t.drop(n[1]);
            case PlainModel.AT: return t.at(n[1], n[2]);
            case PlainModel.NEAREST: return t.nearest(n[1], n[2], n[3], n[4], n[5]);
            case PlainModel.WITHIN: return t.within(c[1], n[2], n[3], n[4], n[5]);
            case PlainModel.LISTED: return t.listed(n[1]);
            case PlainModel.DISTANCE: return t.distance(n[1]);
            case PlainModel.LOOKED: return t.looked();
            case PlainModel.IN_BOX: return t.inBox(n[1], n[2], n[3], n[4], n[5], n[6]);
            case PlainModel.PAIR: return t.pair(n[1]);
            case PlainModel.PARTS: return t.parts(c[1]);
            case PlainModel.SPAN: return t.span();
            case PlainModel.NODE: return t.node(n[1], n[2]);
            case PlainModel.WALK: return t.walk(n[1]);
            default: return t.count(n[1]);
        }
    }

    /** How a run's calls are made: how wide its numbers and IDS are, whether they rise, what it does most. */
    private static final class Style {
        final int width;
        final int ids;
        final boolean rising;
        final int puts;
        final int drops;
        long rise;

        Style(int kind) {
            int[] widths = {2, 5, 40, 10000};
            width = widths[kind % 4];
            ids = kind % 3 == 0 ? 12 : 100;
            rising = kind % 5 == 0;
            puts = 20 + kind % 7 * 6;
            drops = 8 + kind % 4 * 9;
        }

        long[] next(int call) {
            int dice = below(100);
            // Falling and rising tides, so that trees fill up and die off.
            boolean ebb = call / 90 % 2 == 1;
            if (dice < (ebb ? drops : puts)) {
                return put();
            }
            if (dice < puts + drops) {
                return new long[] {ebb || below(3) == 0 ? PlainModel.DROP : PlainModel.PUT, id(), number(), number(), number(), number()};
            }
            return question();
        }

        private long[] put() {
            rise += 1 + below(3);
            long x = rising ? Math.min(10000, rise) : number();
            return new long[] {PlainModel.PUT, id(), x, number(), number(), number()};
        }

        private long[] question() {
            switch (below(14)) {
                case 0: return new long[] {PlainModel.AT, id(), below(6) - 1};
                case 1: return new long[] {PlainModel.NEAREST, below(3) == 0 ? below(104) - 1 : below(7), number(), number(), number(), number()};
                case 2: return new long[] {PlainModel.NEAREST, below(5), number(), number(), number(), number()};
                case 3: return new long[] {PlainModel.WITHIN, most(), number(), number(), number(), number()};
                case 4: return new long[] {PlainModel.LISTED, below(63) - 1};
                case 5: return new long[] {PlainModel.DISTANCE, below(10) - 1};
                case 6: return new long[] {PlainModel.LOOKED};
                case 7: return box();
                case 8: return new long[] {PlainModel.PAIR, below(5) - 1};
                case 9: return new long[] {PlainModel.PARTS, most()};
                case 10: return new long[] {PlainModel.SPAN};
                case 11: return new long[] {PlainModel.NODE, id(), below(7) - 1};
                case 12: return new long[] {PlainModel.WALK, below(40) == 0 ? -1 : below(122)};
                default: return new long[] {PlainModel.COUNT, below(10) - 1};
            }
        }

        private long[] box() {
            long low = number();
            long low2 = number();
            return new long[] {PlainModel.IN_BOX, below(6) - 1, low, low + below(width + 1), below(5), low2, low2 + below(width + 1)};
        }

        private long id() {
            return below(60) == 0 ? below(2) * 101 - 1 : below(ids);
        }

        private long number() {
            return below(150) == 0 ? below(2) * 20002 - 10001 : below(2 * width + 1) - width;
        }

        private long most() {
            switch (below(20)) {
                case 0: return -1;
                case 1: return Long.MAX_VALUE;
                case 2: return 0;
                default: return (long) below(width) * below(width) * (1 + below(3));
            }
        }
    }
}
