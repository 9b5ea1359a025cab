import java.util.ArrayList;
import java.util.List;

/** What is refused or found: the answer told first, that each finding is counted, that nothing else changes. */
public final class RefusalsTest {
    private static final int LEAST = Integer.MIN_VALUE, GREATEST = Integer.MAX_VALUE;
    private static final int UNKNOWN = CleaningBench.UNKNOWN, BAD = CleaningBench.BAD, STATE = CleaningBench.STATE;
    private static final int FULL = CleaningBench.FULL, NONE = CleaningBench.NONE, NULL = CleaningBench.NULL;
    private static final int PLACE = CleaningBench.PLACE, CAST = CleaningBench.CAST, SIZE = CleaningBench.SIZE;

    private interface Call {
        long on(CleaningBench x);
    }

    private static boolean full;

    public static void main(String[] args) {
        for (int turn = 0; turn < 2; turn++) {
            full = turn == 1;
            tables();
            rows();
            columns();
            laws();
            amongs();
            lawsByNumber();
            mendings();
            parts();
            joins();
        }
        fullOnes();
        Due.end();
    }

    /** TABLES 0 (3 COLUMNS) and 1 (1 COLUMN); if it is to be full, as many of all else as there can be. */
    private static CleaningBench bench() {
        CleaningBench x = new CleaningBench();
        x.table(0, 3, 540);
        x.table(1, 1, 4);
        for (int r = 0; r < (full ? 12 : 4); r++) {
            Due.row(x, r % 4 == 3 ? 1 : 0, 1 + r, r % 3, 5 - r);
        }
        x.keep(2, false);
        x.law(0, 0, 0, 1, 0, 0);
        x.law(1, 0, 0, 0, 0, 1);
        x.law(2, 0, 0, 1, 3, 0);
        x.law(3, 0, 1, 0, 0, 0);
        x.law(4, 0, 0, 1, 4, 0);
        x.among(0, 1, 1, 0);
        x.law(0, 0, 1, 1, 0, 0);
        for (int l = 7; l < (full ? 10 : 7); l++) {
            x.among(0, 0, 0, 1);
        }
        x.force(5, false);
        x.part(0);
        x.part(1);
        x.tell(0, 0, 1);
        x.join(0, 1, 1, 0);
        if (full) {
            x.part(0);
            for (int j = 2; j <= 6; j++) {
                x.join(2, 2, 2, 2);
            }
        }
        return x;
    }

    /** All that can be seen of a bench but its FINDINGS. */
    private static List<Long> seen(CleaningBench x) {
        List<Long> all = new ArrayList<>();
        for (int what : new int[] {0, 1, 2, 3, 5, 6}) {
            all.add((long) x.count(what));
        }
        for (int r = 0; r < x.count(0); r++) {
            for (int what = 0; what < 3; what++) {
                all.add((long) x.about(r, what));
            }
            for (int c = 0; c < (x.about(r, 0) == 0 ? 3 : 1); c++) {
                all.add((long) x.has(r, c));
                all.add(x.cell(r, c));
            }
        }
        for (int l = 0; l < x.count(1); l++) {
            int was = x.force(l, true);
            x.force(l, was == 1);
            all.add((long) was);
            all.add((long) x.quarrels(l));
            all.add((long) x.quarrel(l, 0));
        }
        all.add(x.most(4));
        all.add((long) x.stands());
        all.add((long) x.mends());
        all.add((long) x.mending(0));
        all.add((long) x.often());
        return all;
    }

    private static void refused(String about, int due, Call call) {
        String name = about + (full ? ", full" : "");
        CleaningBench x = bench();
        int before = x.count(4);
        Due.is(name, call.on(x), due);
        boolean found = due == NULL || due == PLACE || due == CAST || due == SIZE;
        Due.is(name + ": findings", x.count(4) - before, found ? 1 : 0);
        Due.is(name + ": nothing else changed", seen(x).equals(seen(bench())) ? 1 : 0, 1);
    }

    private static void tables() {
        for (int t : new int[] {LEAST, -1, 4, GREATEST}) {
            refused("2: PLACE before SIZE, BAD", PLACE, x -> x.table(t, -1, -1));
        }
        for (int columns : new int[] {LEAST, -1}) {
            refused("2: SIZE before BAD, STATE", SIZE, x -> x.table(0, columns, -1));
            refused("2: SIZE", SIZE, x -> x.table(2, columns, 0));
        }
        for (int columns : new int[] {0, 7, GREATEST}) {
            refused("2: columns " + columns, BAD, x -> x.table(2, columns, 0));
            refused("2: BAD before STATE", BAD, x -> x.table(0, columns, 0));
        }
        for (int lanes : new int[] {LEAST, -1, 6, 9, 10, 100, GREATEST}) {
            refused("2: lanes of one column " + lanes, BAD, x -> x.table(2, 1, lanes));
        }
        for (int lanes : new int[] {6, 600000, 555556, 655555, 1000000, 5555555, -5}) {
            refused("2: lanes of six columns " + lanes, BAD, x -> x.table(3, 6, lanes));
            refused("2: BAD lanes before STATE", BAD, x -> x.table(1, 6, lanes));
        }
        refused("2: STATE, as it is", STATE, x -> x.table(0, 3, 540));
        refused("2: STATE, another", STATE, x -> x.table(1, 6, 0));
    }

    private static void rows() {
        refused("3: PLACE before BAD", PLACE, x -> x.row(4, 0));
        refused("3: NULL before BAD", NULL, x -> x.row(2, 0));
        for (int trust : new int[] {LEAST, -1, 0, 101, GREATEST}) {
            refused("3: trust " + trust, BAD, x -> x.row(0, trust));
            refused("9: trust " + trust, BAD, x -> x.trust(0, trust));
        }
        for (int r : new int[] {LEAST, -1, full ? 12 : 4, GREATEST}) {
            refused("4: no row", UNKNOWN, x -> x.put(r, -1, 7));
            refused("5: no row", UNKNOWN, x -> x.miss(r, -1));
            refused("6: no row", UNKNOWN, x -> x.has(r, 6));
            refused("7: no row", UNKNOWN, x -> x.cell(r, 6));
            refused("9: no row before BAD", UNKNOWN, x -> x.trust(r, 0));
            refused("10: no row", UNKNOWN, x -> x.keep(r, false));
            refused("11: no row before BAD", UNKNOWN, x -> x.about(r, 3));
            refused("24: no row", UNKNOWN, x -> x.blame(r));
        }
        for (int what : new int[] {LEAST, -1, 3, GREATEST}) {
            refused("11: what " + what, BAD, x -> x.about(0, what));
        }
        for (int what : new int[] {LEAST, -1, 7, GREATEST}) {
            refused("36: what " + what, BAD, x -> x.count(what));
        }
    }

    private static void columns() {
        for (int c : new int[] {LEAST, -1, 3, 6, GREATEST}) {
            refused("4: column " + c, PLACE, x -> x.put(0, c, 7));
            refused("5: column " + c, PLACE, x -> x.miss(0, c));
            refused("6: column " + c, PLACE, x -> x.has(0, c));
            refused("7: column " + c, PLACE, x -> x.cell(0, c));
            refused("8: PLACE before CAST", PLACE, x -> x.column(0, c, 3));
            refused("8: BAD before PLACE of a column", BAD, x -> x.column(0, c, 6));
            refused("25: column " + c, PLACE, x -> x.sum(0, c, false));
        }
        refused("4: a column of another table", PLACE, x -> x.put(3, 1, 7));
        refused("5: a column of another table", PLACE, x -> x.miss(3, 1));
        refused("8: PLACE before BAD", PLACE, x -> x.column(-1, 9, 9));
        refused("8: NULL before BAD", NULL, x -> x.column(3, 9, 9));
        for (int lane : new int[] {LEAST, -1, 6, GREATEST}) {
            refused("8: lane " + lane, BAD, x -> x.column(0, 0, lane));
        }
        for (int c = 0; c < 3; c++) {
            int column = c;
            for (int lane = 0; lane < 6; lane++) {
                int other = lane;
                if (other != new int[] {0, 4, 5}[c]) {
                    refused("8: CAST", CAST, x -> x.column(0, column, other));
                }
            }
        }
    }

    private static void laws() {
        for (int kind : new int[] {LEAST, -1, 5, GREATEST}) {
            refused("12: kind " + kind, BAD, x -> x.law(kind, 9, 9, 9, 0, 0));
        }
        for (long most : new long[] {Long.MIN_VALUE, -1}) {
            refused("12: most " + most, BAD, x -> x.law(4, 9, 9, 9, most, 0));
        }
        if (full) {
            refused("12: FULL before PLACE", FULL, x -> x.law(0, 9, 9, 9, 0, 0));
            return;
        }
        for (int kind = 0; kind < 5; kind++) {
            int one = kind;
            refused("12: PLACE of t, kind " + kind, PLACE, x -> x.law(one, 4, 9, 9, 0, 0));
            refused("12: NULL, kind " + kind, NULL, x -> x.law(one, 2, 9, 9, 0, 0));
            for (int c : new int[] {LEAST, -1, 3, GREATEST}) {
                refused("12: a, kind " + kind, PLACE, x -> x.law(one, 0, c, 0, 0, 0));
                if (kind % 2 == 0) {
                    refused("12: b, kind " + kind, PLACE, x -> x.law(one, 0, 0, c, 0, 0));
                }
            }
        }
    }

    private static void amongs() {
        if (full) {
            refused("13: FULL before PLACE", FULL, x -> x.among(9, 9, 9, 9));
            return;
        }
        refused("13: PLACE of t", PLACE, x -> x.among(4, 9, 2, 9));
        refused("13: NULL of t", NULL, x -> x.among(2, 9, 9, 9));
        refused("13: PLACE of u", PLACE, x -> x.among(0, 0, -1, 9));
        refused("13: NULL of u", NULL, x -> x.among(0, 0, 3, 9));
        for (int c : new int[] {LEAST, -1, 3, GREATEST}) {
            refused("13: c before NULL of u", PLACE, x -> x.among(0, c, 2, 0));
            refused("13: d", PLACE, x -> x.among(1, 0, 0, c));
        }
        refused("13: c of t", PLACE, x -> x.among(1, 1, 0, 0));
        refused("13: d of u", PLACE, x -> x.among(0, 1, 1, 1));
    }

    private static void lawsByNumber() {
        for (int l : new int[] {LEAST, -1, full ? 10 : 7, GREATEST}) {
            refused("14: no law", UNKNOWN, x -> x.force(l, false));
            refused("15: no law", UNKNOWN, x -> x.most(l));
            refused("16: no law", UNKNOWN, x -> x.quarrels(l));
            refused("17: no law before NONE", UNKNOWN, x -> x.quarrel(l, -1));
            refused("27: no law", UNKNOWN, x -> x.settle(l));
        }
        for (int l : new int[] {0, 1, 2, 3, 5, 6}) {
            refused("15: no SUM", CAST, x -> x.most(l));
        }
        for (int l : new int[] {1, 2, 3, 4, 5}) {
            refused("27: no ALIKE", CAST, x -> x.settle(l));
        }
        refused("27: x is y", STATE, x -> x.settle(6));
        for (int i : new int[] {LEAST, -1, 4096, GREATEST}) {
            refused("17: no quarrel " + i, NONE, x -> x.quarrel(0, i));
        }
        for (int rows : new int[] {4, 5, full ? 4096 : 16, 1 << 30, LEAST, GREATEST, -1}) {
            refused("19: rows " + rows, BAD, x -> x.breaks(rows));
        }
    }

    private static void mendings() {
        for (int i : new int[] {LEAST, -1, 4096, GREATEST}) {
            refused("21: no mending " + i, NONE, x -> x.mending(i));
        }
        for (boolean greatest : new boolean[] {false, true}) {
            refused("25: PLACE of t", PLACE, x -> x.sum(-1, 9, greatest));
            refused("25: NULL before PLACE of a column", NULL, x -> x.sum(2, 9, greatest));
            refused("25: a column of another table", PLACE, x -> x.sum(1, 1, greatest));
        }
    }

    private static void parts() {
        refused("29: PLACE", PLACE, x -> x.part(4));
        refused("29: NULL", NULL, x -> x.part(2));
        if (full) {
            refused("29: FULL", FULL, x -> x.part(0));
        }
        for (int p : new int[] {LEAST, -1, full ? 3 : 2, GREATEST}) {
            refused("30: no part before PLACE", UNKNOWN, x -> x.tell(p, 9, 0));
            refused("31: no p before PLACE", UNKNOWN, x -> x.join(p, 9, 0, 9));
            refused("31: no q before PLACE", UNKNOWN, x -> x.join(0, 9, p, 9));
        }
        for (int c : new int[] {LEAST, -1, 3, GREATEST}) {
            refused("30: column " + c, PLACE, x -> x.tell(0, c, 0));
        }
        refused("30: a column of another table", PLACE, x -> x.tell(1, 1, 0));
    }

    private static void joins() {
        for (int c : new int[] {LEAST, -1, 3, GREATEST}) {
            refused("31: c", PLACE, x -> x.join(0, c, 1, 0));
            refused("31: d", PLACE, x -> x.join(1, 0, 0, c));
            refused("31: c and d are one finding", PLACE, x -> x.join(1, c, 0, c));
        }
        refused("31: c of p", PLACE, x -> x.join(1, 1, 0, 1));
        refused("31: d of q", PLACE, x -> x.join(0, 1, 1, 1));
        if (full) {
            refused("31: FULL", FULL, x -> x.join(0, 0, 1, 0));
        }
    }

    private static void fullOnes() {
        full = true;
        refused("3: FULL", FULL, x -> x.row(0, 1));
        refused("3: FULL of another table", FULL, x -> x.row(1, 100));
        refused("12: FULL", FULL, x -> x.law(0, 0, 0, 1, 0, 0));
        refused("13: FULL", FULL, x -> x.among(0, 0, 1, 0));
    }
}
