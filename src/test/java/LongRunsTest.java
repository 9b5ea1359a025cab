/**
 * Long runs of calls, chosen by fixed arithmetic, on CleaningBench and on SlowBench: each answer of
 * the one is due from the other.
 */
public final class LongRunsTest {
    private static final long[] EDGES = {
        Long.MIN_VALUE, Long.MIN_VALUE + 1, -1, 0, 1, Long.MAX_VALUE - 1, Long.MAX_VALUE,
        200, -200, 40000, 70000, 3000000000L, 9007199254740993L, Long.MAX_VALUE / 2, Long.MAX_VALUE / 3
    };
    private static final int[] WILD = {-1, Integer.MIN_VALUE, Integer.MAX_VALUE, 4, 6, 12, 100};

    private long state;
    private int cells;
    private boolean wild;
    private final CleaningBench x = new CleaningBench();
    private final SlowBench slow = new SlowBench();

    private LongRunsTest(int run) {
        state = run * 0x9E3779B97F4A7C15L + 12345;
        cells = 2 + run % 4;
        wild = run % 3 == 0;
    }

    public static void main(String[] args) {
        int runs = args.length > 0 ? Integer.parseInt(args[0]) : 1500;
        for (int run = 0; run < runs; run++) {
            LongRunsTest one = new LongRunsTest(run);
            int rows = run % 60 == 0 ? 12 : 3 + run % 5;
            one.set(run, rows);
            int calls = 440;
            for (int i = 0; i < calls; i++) {
                one.any(run, i, rows);
            }
        }
        Due.end();
    }

    private int next(int bound) {
        state = state * 6364136223846793005L + 1442695040888963407L;
        return (int) ((state >>> 33) % bound);
    }

    private int index(int bound) {
        return wild && next(25) == 0 ? WILD[next(WILD.length)] : next(bound);
    }

    private long number() {
        return next(12) == 0 ? EDGES[next(EDGES.length)] : next(cells) - next(2);
    }

    private boolean coin() {
        return next(2) == 0;
    }

    private void set(int run, int rows) {
        for (int t = 0; t < 4; t++) {
            int columns = 2 + next(3);
            int lanes = 0;
            for (int c = 0; c < columns; c++) {
                lanes = lanes * 10 + (coin() ? 4 : next(6));
            }
            if (t < 2 || coin()) {
                Due.is("run " + run + ": table", x.table(t, columns, lanes), slow.table(t, columns, lanes));
            }
        }
        for (int r = 0; r < rows; r++) {
            addRow("run " + run + ": row " + r);
        }
    }

    private void addRow(String about) {
        int t = next(4) == 0 ? index(4) : next(2);
        int trust = wild && next(10) == 0 ? index(103) : 1 + next(4);
        int row = x.row(t, trust);
        Due.is(about, row, slow.row(t, trust));
        for (int c = 0; c < 3 && row >= 0; c++) {
            if (next(6) != 0) {
                long v = number();
                Due.is(about + ": put", x.put(row, c, v), slow.put(row, c, v));
            }
        }
    }

    private void any(int run, int i, int rows) {
        int what = next(60);
        String about = "run " + run + ", call " + i + ", kind " + what;
        if (what < 16) {
            change(about, what, rows);
        } else if (what < 30) {
            ask(about, what);
        } else {
            look(about, what);
        }
    }

    private void change(String about, int what, int rows) {
        int r = index(rows + 1);
        int c = index(4);
        long v = number();
        switch (what) {
            case 0 -> {
                int lanes = index(8) * 11;
                Due.is(about, x.table(r, c, lanes), slow.table(r, c, lanes));
            }
            case 1 -> {
                if (next(10) == 0) {
                    addRow(about);
                }
            }
            case 2, 3, 4 -> Due.is(about, x.put(r, c, v), slow.put(r, c, v));
            case 5 -> Due.is(about, x.miss(r, c), slow.miss(r, c));
            case 6 -> Due.is(about, x.trust(r, c + 1), slow.trust(r, c + 1));
            case 7, 8, 9 -> {
                boolean is = next(4) != 0;
                Due.is(about, x.keep(r, is), slow.keep(r, is));
            }
            case 10, 11 -> addLaw(about);
            case 12, 13 -> {
                boolean is = coin();
                int law = index(10);
                Due.is(about, x.force(law, is), slow.force(law, is));
            }
            case 14 -> {
                if (next(4) == 0) {
                    Due.is(about, x.mend(), slow.mend());
                }
            }
            default -> Due.is(about, x.settle(r), slow.settle(r));
        }
    }

    private void addLaw(String about) {
        int kind = index(6);
        int t = index(next(3) == 0 ? 4 : 2);
        int a = index(3);
        int b = index(3);
        if (kind == 5) {
            int u = index(3);
            Due.is(about, x.among(t, a, u, b), slow.among(t, a, u, b));
        } else {
            long c = next(8) == 0 ? number() : next(cells + 2) - next(2);
            long d = next(8) == 0 ? number() : next(cells + 2);
            Due.is(about, x.law(kind, t, a, b, c, d), slow.law(kind, t, a, b, c, d));
        }
    }

    private void ask(String about, int what) {
        int p = index(3);
        int q = index(3);
        int c = index(3);
        int d = index(3);
        long v = number();
        switch (what) {
            case 16 -> Due.is(about, x.ask(), slow.ask());
            case 17, 18, 19 -> Due.is(about, x.part(p), slow.part(p));
            case 20, 21 -> Due.is(about, x.tell(p, c, v), slow.tell(p, c, v));
            case 22, 23 -> Due.is(about, x.join(p, c, q, d), slow.join(p, c, q, d));
            case 24 -> Due.is(about, x.stands(), slow.stands());
            case 25, 26 -> Due.is(about, x.often(), slow.often());
            case 27 -> Due.is(about, x.sure(), slow.sure());
            default -> Due.is(about, x.against(), slow.against());
        }
    }

    private void look(String about, int what) {
        int r = index(12);
        int c = index(4);
        int i = index(8);
        boolean is = coin();
        switch (what) {
            case 30 -> Due.is(about, x.has(r, c), slow.has(r, c));
            case 31, 32 -> Due.is(about, x.cell(r, c), slow.cell(r, c));
            case 33 -> Due.is(about, x.column(r % 5, c, i), slow.column(r % 5, c, i));
            case 34 -> Due.is(about, x.about(r, c), slow.about(r, c));
            case 35 -> Due.is(about, x.most(r), slow.most(r));
            case 36, 37, 38 -> Due.is(about, x.quarrels(r), slow.quarrels(r));
            case 39, 40, 41 -> Due.is(about, x.quarrel(r, i), slow.quarrel(r, i));
            case 42 -> Due.is(about, x.clean(), slow.clean());
            case 43, 44 -> {
                int set = next(1 << next(13));
                Due.is(about, x.breaks(set), slow.breaks(set));
            }
            case 45, 46 -> Due.is(about, x.mends(), slow.mends());
            case 47, 48, 49 -> Due.is(about, x.mending(i), slow.mending(i));
            case 50 -> Due.is(about, x.price(), slow.price());
            case 51 -> Due.is(about, x.best(), slow.best());
            case 52, 53 -> Due.is(about, x.blame(r), slow.blame(r));
            case 54, 55 -> Due.is(about, x.sum(r % 4, c, is), slow.sum(r % 4, c, is));
            default -> Due.is(about, x.count(i), slow.count(i));
        }
    }
}
