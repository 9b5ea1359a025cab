/** Promises 12 to 19. */
public final class LawsTest {
    private static final long MIN = Long.MIN_VALUE, MAX = Long.MAX_VALUE;
    private static final int ALIKE = 0, SPAN = 1, APART = 2, MUST = 3, SUM = 4;

    public static void main(String[] args) {
        lawsRefused();
        lawsFull();
        argumentsNotLookedAt();
        amongRefused();
        force();
        most();
        alike();
        span();
        apart();
        must();
        sums();
        sumsBeyondLongs();
        among();
        quarrelsRefused();
        missingCells();
        clean();
        breaks();
        Due.end();
    }

    private static void quarrelsAre(String about, CleaningBench x, int law, int... due) {
        Due.is(about + ": quarrels", x.quarrels(law), due.length);
        for (int i = 0; i < due.length; i++) {
            Due.is(about + ": quarrel " + i, x.quarrel(law, i), due[i]);
        }
        Due.is(about + ": one more", x.quarrel(law, due.length), CleaningBench.NONE);
        Due.is(about + ": one before", x.quarrel(law, -1), CleaningBench.NONE);
    }

    private static void lawsRefused() {
        CleaningBench x = Due.longs(2);
        Due.is("12: kind below", x.law(-1, 0, 0, 0, 0, 0), CleaningBench.BAD);
        Due.is("12: kind above", x.law(5, 9, 0, 0, 0, 0), CleaningBench.BAD);
        Due.is("12: most below 0", x.law(SUM, 9, 0, 0, -1, 0), CleaningBench.BAD);
        Due.is("12: t", x.law(SUM, 4, 0, 0, 0, 0), CleaningBench.PLACE);
        Due.is("12: t below", x.law(MUST, -1, 0, 0, 0, 0), CleaningBench.PLACE);
        Due.is("12: no table", x.law(MUST, 1, 9, 0, 0, 0), CleaningBench.NULL);
        Due.is("12: findings", x.count(4), 3);
        for (int kind = 0; kind < 5; kind++) {
            Due.is("12: a below, kind " + kind, x.law(kind, 0, -1, 0, 0, 0), CleaningBench.PLACE);
            Due.is("12: a above, kind " + kind, x.law(kind, 0, 2, 9, 0, 0), CleaningBench.PLACE);
        }
        Due.is("12: findings, one a call", x.count(4), 13);
        for (int kind = 0; kind < 5; kind += 2) {
            Due.is("12: b below, kind " + kind, x.law(kind, 0, 0, -1, 0, 0), CleaningBench.PLACE);
            Due.is("12: b above, kind " + kind, x.law(kind, 0, 0, 2, 0, 0), CleaningBench.PLACE);
        }
        Due.is("12: findings", x.count(4), 19);
        Due.is("12: none was made", x.count(1), 0);
        Due.is("12: b of a SPAN", x.law(SPAN, 0, 0, -1, 5, 4), 0);
        Due.is("12: b of a MUST", x.law(MUST, 0, 1, 2, -1, -1), 1);
        Due.is("12: c below 0 of another", x.law(APART, 0, 0, 1, -1, 0), 2);
        Due.is("12: x is y", x.law(ALIKE, 0, 1, 1, 0, 0), 3);
        Due.is("12: laws", x.count(1), 4);
    }

    private static void lawsFull() {
        CleaningBench x = Due.longs(1);
        for (int l = 0; l < 10; l++) {
            Due.is("12: law " + l, l % 2 == 0 ? x.law(MUST, 0, 0, 0, 0, 0) : x.among(0, 0, 0, 0), l);
        }
        Due.is("12: full", x.law(MUST, 9, 0, 0, 0, 0), CleaningBench.FULL);
        Due.is("12: BAD before FULL", x.law(5, 0, 0, 0, 0, 0), CleaningBench.BAD);
        Due.is("12: BAD before FULL", x.law(SUM, 0, 0, 0, -1, 0), CleaningBench.BAD);
        Due.is("13: full", x.among(9, 0, 0, 0), CleaningBench.FULL);
        Due.is("12, 13: findings", x.count(4), 0);
        Due.is("12, 13: laws", x.count(1), 10);
    }

    private static void argumentsNotLookedAt() {
        for (long any : new long[] {MIN, -1, 0, MAX}) {
            for (int column : new int[] {Integer.MIN_VALUE, -1, 2, Integer.MAX_VALUE}) {
                CleaningBench x = Due.longs(2);
                Due.is("12: c, d of an ALIKE", x.law(ALIKE, 0, 0, 1, any, any), 0);
                Due.is("12: b of a SPAN", x.law(SPAN, 0, 0, column, 1, 2), 1);
                Due.is("12: d of an APART", x.law(APART, 0, 0, 1, 2, any), 2);
                Due.is("12: b, c, d of a MUST", x.law(MUST, 0, 0, column, any, any), 3);
                Due.is("12: d of a SUM", x.law(SUM, 0, 0, 1, 3, any), 4);
                Due.row(x, 0, 1, 1, 1);
                Due.row(x, 0, 1, 1, 2);
                Due.row(x, 0, 1, 3, 4);
                quarrelsAre("12: ALIKE all the same", x, 0, 3);
                quarrelsAre("12: SPAN all the same", x, 1, 4);
                quarrelsAre("12: APART all the same", x, 2, 3);
                quarrelsAre("12: MUST all the same", x, 3);
                quarrelsAre("12: SUM all the same", x, 4, 4);
                Due.is("12: no findings", x.count(4), 0);
            }
        }
    }

    private static void amongRefused() {
        CleaningBench x = Due.longs(2);
        x.table(2, 1, 0);
        Due.is("13: t", x.among(4, 9, 9, 9), CleaningBench.PLACE);
        Due.is("13: no t", x.among(1, 9, 9, 9), CleaningBench.NULL);
        Due.is("13: c above", x.among(0, 2, 1, 9), CleaningBench.PLACE);
        Due.is("13: c below", x.among(0, -1, 1, 9), CleaningBench.PLACE);
        Due.is("13: u below", x.among(0, 1, -1, 9), CleaningBench.PLACE);
        Due.is("13: u above", x.among(0, 1, 4, 9), CleaningBench.PLACE);
        Due.is("13: no u", x.among(0, 1, 3, 9), CleaningBench.NULL);
        Due.is("13: d above", x.among(0, 1, 2, 1), CleaningBench.PLACE);
        Due.is("13: d below", x.among(0, 1, 2, -1), CleaningBench.PLACE);
        Due.is("13: findings", x.count(4), 9);
        Due.is("13: among", x.among(0, 1, 2, 0), 0);
        Due.is("13: of itself", x.among(2, 0, 2, 0), 1);
    }

    private static void force() {
        CleaningBench x = Due.longs(1);
        Due.is("14: no law", x.force(0, true), CleaningBench.UNKNOWN);
        x.law(MUST, 0, 0, 0, 0, 0);
        Due.row(x, 0, 1);
        Due.is("14: law below", x.force(-1, true), CleaningBench.UNKNOWN);
        Due.is("14: at first", x.force(0, true), 1);
        Due.is("14: it was", x.force(0, false), 1);
        Due.is("14: clean without it", x.clean(), 1);
        quarrelsAre("14, 16: not in force", x, 0, 1);
        Due.is("14: it was not", x.force(0, false), 0);
        Due.is("14: it was not", x.force(0, true), 0);
        Due.is("14: not clean with it", x.clean(), 0);
    }

    private static void most() {
        CleaningBench x = Due.longs(2);
        Due.is("15: no law", x.most(0), CleaningBench.UNKNOWN);
        x.law(SUM, 0, 0, 1, MAX, 3);
        x.law(SUM, 0, 0, 1, 0, 3);
        x.law(APART, 0, 0, 1, 5, 3);
        x.among(0, 0, 0, 0);
        Due.is("15: law below", x.most(-1), CleaningBench.UNKNOWN);
        Due.is("15: law above", x.most(4), CleaningBench.UNKNOWN);
        Due.is("15: most", x.most(0), MAX);
        Due.is("15: 0", x.most(1), 0);
        Due.is("15: no SUM", x.most(2), CleaningBench.CAST);
        Due.is("15: no SUM", x.most(3), CleaningBench.CAST);
        Due.is("15: findings", x.count(4), 2);
    }

    private static void alike() {
        CleaningBench x = Due.longs(2);
        x.law(ALIKE, 0, 0, 1, 0, 0);
        x.law(ALIKE, 0, 1, 0, 0, 0);
        x.law(ALIKE, 0, 0, 0, 0, 0);
        Due.row(x, 0, 1, 1, 5);
        Due.row(x, 0, 1, 2, 6);
        Due.row(x, 0, 1, 1, 6);
        Due.row(x, 0, 1, 1, 7);
        quarrelsAre("ALIKE", x, 0, 0b0101, 0b1001, 0b1100);
        quarrelsAre("ALIKE the other way", x, 1, 0b0110);
        quarrelsAre("ALIKE of one", x, 2);
        x.keep(2, false);
        quarrelsAre("ALIKE, a row dropped", x, 0, 0b1001);
    }

    private static void span() {
        CleaningBench x = Due.longs(1);
        x.law(SPAN, 0, 0, 0, -2, 3);
        x.law(SPAN, 0, 0, 0, 3, -2);
        x.law(SPAN, 0, 0, 0, MIN, MAX);
        long[] cells = {-3, -2, 0, 3, 4, MIN, MAX};
        for (long v : cells) {
            Due.row(x, 0, 1, v);
        }
        quarrelsAre("SPAN", x, 0, 1, 16, 32, 64);
        quarrelsAre("SPAN from above to", x, 1, 1, 2, 4, 8, 16, 32, 64);
        quarrelsAre("SPAN of all", x, 2);
        x.miss(0, 0);
        x.keep(5, false);
        quarrelsAre("SPAN, one missing, one dropped", x, 0, 16, 64);
    }

    private static void apart() {
        CleaningBench x = Due.longs(2);
        x.law(APART, 0, 0, 1, 5, 0);
        x.law(APART, 0, 0, 1, 0, 0);
        x.law(APART, 0, 0, 1, MIN, 0);
        x.law(APART, 0, 0, 1, MAX, 0);
        x.law(APART, 0, 0, 0, 1, 0);
        Due.row(x, 0, 1, 1, 0);
        Due.row(x, 0, 1, 1, 5);
        Due.row(x, 0, 1, 1, 9);
        Due.row(x, 0, 1, 2, 5);
        quarrelsAre("APART", x, 0, 0b0110);
        quarrelsAre("APART by 0", x, 1);
        quarrelsAre("APART below 0", x, 2);
        quarrelsAre("APART by the greatest", x, 3, 0b0011, 0b0101, 0b0110);
        quarrelsAre("APART, g is c", x, 4, 0b0011, 0b0101, 0b0110);
        x.put(0, 1, MIN);
        x.put(1, 1, -1);
        x.put(2, 1, 0);
        quarrelsAre("APART by exactly the greatest", x, 3, 0b0110);
        x.put(1, 1, -2);
        quarrelsAre("APART by one less", x, 3, 0b0011, 0b0110);
        x.put(1, 1, MAX);
        quarrelsAre("APART beyond the longs", x, 0);
        x.put(2, 1, MAX);
        quarrelsAre("APART, like cells", x, 0, 0b0110);
    }

    private static void must() {
        CleaningBench x = Due.longs(2);
        x.table(1, 1, 0);
        x.law(MUST, 0, 1, 0, 0, 0);
        Due.row(x, 0, 1, 1);
        Due.row(x, 1, 1);
        Due.row(x, 0, 1, 0, 0);
        Due.row(x, 0, 1);
        quarrelsAre("MUST", x, 0, 1, 8);
        x.keep(0, false);
        quarrelsAre("MUST, a row dropped", x, 0, 8);
    }

    private static void sums() {
        CleaningBench x = Due.longs(2);
        x.law(SUM, 0, 0, 1, 10, 0);
        x.law(SUM, 0, 0, 1, 0, 0);
        Due.row(x, 0, 1, 1, 4);
        Due.row(x, 0, 1, 1, 4);
        Due.row(x, 0, 1, 1, 3);
        Due.row(x, 0, 1, 1, 6);
        Due.row(x, 0, 1, 1, 11);
        Due.row(x, 0, 1, 1, -9);
        Due.row(x, 0, 1, 2, 8);
        Due.row(x, 0, 1, 2, 3);
        Due.row(x, 0, 1, 2, 0);
        quarrelsAre("SUM", x, 0, 0b0000111, 0b0001011, 0b0001101, 0b0001110, 0b0010000, 0b11000000);
        quarrelsAre("SUM of 0", x, 1, 1, 2, 4, 8, 16, 64, 128);
        x.keep(4, false);
        x.keep(0, false);
        quarrelsAre("SUM, rows dropped", x, 0, 0b0001110, 0b11000000);
        x.put(7, 1, 2);
        quarrelsAre("SUM as much as most", x, 0, 0b0001110);
        x.put(6, 0, 1);
        quarrelsAre("SUM, rows between", x, 0, 0b0001110, 0b1000010, 0b1000100, 0b1001000);
    }

    private static void sumsBeyondLongs() {
        CleaningBench x = Due.longs(2);
        x.law(SUM, 0, 0, 1, MAX, 0);
        for (int r = 0; r < 4; r++) {
            Due.row(x, 0, 1, 1, MAX);
        }
        quarrelsAre("SUM beyond the longs", x, 0, 3, 5, 6, 9, 10, 12);
        x.put(0, 1, 1);
        x.put(1, 1, MAX - 1);
        x.put(2, 1, 1);
        x.put(3, 1, MIN);
        quarrelsAre("SUM one more than the longs", x, 0, 0b0111);
        Due.is("breaks of it", x.breaks(7), 0);
        Due.is("breaks of a part", x.breaks(3), CleaningBench.NONE);
        for (int r = 0; r < 4; r++) {
            x.put(r, 1, r == 3 ? MIN : -1);
        }
        quarrelsAre("SUM of none above 0", x, 0);
        for (int r = 0; r < 4; r++) {
            x.put(r, 0, -5);
            x.put(r, 1, MAX / 2);
        }
        quarrelsAre("SUM of a group below 0", x, 0, 0b0111, 0b1011, 0b1101, 0b1110);
    }

    private static void among() {
        CleaningBench x = Due.longs(2);
        x.table(1, 1, 0);
        x.among(0, 0, 1, 0);
        x.among(0, 0, 0, 1);
        x.among(0, 1, 0, 1);
        Due.row(x, 0, 1, 44, 5);
        Due.row(x, 0, 1, 300, 44);
        Due.row(x, 1, 1, 300);
        Due.row(x, 0, 1, 7, 7);
        quarrelsAre("AMONG", x, 0, 0b0010, 0b1000);
        quarrelsAre("AMONG of the same table, the same row", x, 1, 0b0010);
        quarrelsAre("AMONG of the same column", x, 2);
        x.keep(1, false);
        quarrelsAre("AMONG, one dropped", x, 0, 0b1000);
        quarrelsAre("AMONG, its like dropped", x, 1, 0b0001);
        x.keep(2, false);
        quarrelsAre("AMONG of no row", x, 0, 0b0001, 0b1000);
        x.miss(0, 0);
        quarrelsAre("AMONG, one missing", x, 0, 0b1000);
    }

    private static void quarrelsRefused() {
        CleaningBench x = Due.longs(1);
        Due.is("16: no law", x.quarrels(0), CleaningBench.UNKNOWN);
        Due.is("17: no law", x.quarrel(0, 0), CleaningBench.UNKNOWN);
        x.law(MUST, 0, 0, 0, 0, 0);
        Due.is("16: law below", x.quarrels(-1), CleaningBench.UNKNOWN);
        Due.is("17: law below", x.quarrel(-1, 0), CleaningBench.UNKNOWN);
        quarrelsAre("no rows", x, 0);
        Due.is("17: greatest i", x.quarrel(0, Integer.MAX_VALUE), CleaningBench.NONE);
        Due.is("17: least i", x.quarrel(0, Integer.MIN_VALUE), CleaningBench.NONE);
    }

    private static void missingCells() {
        CleaningBench x = Due.longs(2);
        x.law(ALIKE, 0, 0, 1, 0, 0);
        x.law(SPAN, 0, 0, 0, 5, 6);
        x.law(APART, 0, 0, 1, 5, 0);
        x.law(SUM, 0, 0, 1, 1, 0);
        x.among(0, 0, 0, 1);
        Due.row(x, 0, 1);
        Due.row(x, 0, 1);
        int third = Due.row(x, 0, 1, 0);
        x.miss(third, 0);
        x.put(0, 1, 1);
        x.put(1, 1, 2);
        for (int law = 0; law < 5; law++) {
            quarrelsAre("first missing, law " + law, x, law);
        }
        x.put(0, 0, 5);
        x.put(1, 0, 5);
        x.put(2, 0, 5);
        x.miss(0, 1);
        x.miss(1, 1);
        x.put(2, 1, 1);
        for (int law = 0; law < 4; law++) {
            quarrelsAre("second missing, law " + law, x, law);
        }
        x.put(0, 0, 0);
        quarrelsAre("a missing one is like no 0", x, 4, 1, 2, 4);
    }

    private static void clean() {
        CleaningBench x = Due.longs(2);
        Due.is("18: no laws", x.clean(), 1);
        Due.row(x, 0, 1, 1, 5);
        Due.row(x, 0, 1, 1, 6);
        Due.is("18: no laws", x.clean(), 1);
        x.law(SPAN, 0, 0, 0, 0, 1);
        x.law(ALIKE, 0, 0, 1, 0, 0);
        Due.is("18: the second is broken", x.clean(), 0);
        x.keep(1, false);
        Due.is("18: not by the kept one", x.clean(), 1);
        x.keep(1, true);
        x.force(1, false);
        Due.is("18: not in force", x.clean(), 1);
        x.among(0, 0, 0, 1);
        Due.is("18: AMONG", x.clean(), 0);
    }

    private static void breaks() {
        CleaningBench x = Due.longs(2);
        Due.is("19: no rows", x.breaks(1), CleaningBench.BAD);
        Due.row(x, 0, 1, 1, 5);
        Due.row(x, 0, 1, 1, 6);
        Due.row(x, 0, 1, 6, 1);
        Due.row(x, 0, 1, 9, 9);
        x.law(SPAN, 0, 0, 0, 0, 8);
        x.law(ALIKE, 0, 0, 1, 0, 0);
        x.among(0, 0, 0, 1);
        Due.is("19: the least", x.breaks(15), 0);
        Due.is("19: two that are unlike", x.breaks(3), 1);
        Due.is("19: they help one another", x.breaks(6), CleaningBench.NONE);
        Due.is("19: none to help", x.breaks(2), 2);
        Due.is("19: no row", x.breaks(0), CleaningBench.NONE);
        Due.is("19: a bit above", x.breaks(16), CleaningBench.BAD);
        Due.is("19: the highest bit", x.breaks(MIN_INT), CleaningBench.BAD);
        Due.is("19: all bits", x.breaks(-1), CleaningBench.BAD);
        x.keep(3, false);
        Due.is("19: a bit of a dropped row", x.breaks(8), CleaningBench.BAD);
        x.force(1, false);
        Due.is("19: in force alone", x.breaks(3), 2);
    }

    private static final int MIN_INT = Integer.MIN_VALUE;
}
