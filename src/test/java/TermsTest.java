/** The sentences under "Terms" that hold for several calls; what one call alone asks for is in its own test. */
public final class TermsTest {
    private static final long MIN = Long.MIN_VALUE, MAX = Long.MAX_VALUE;
    private static final long NO_DOUBLE = 9007199254740993L, ITS_DOUBLE = 9007199254740992L;
    private static final int ALIKE = 0, SPAN = 1, APART = 2, MUST = 3, SUM = 4;
    private static final int BYTES = 0, SHORTS = 1, CHARS = 2, INTS = 3, LONGS = 4, DOUBLES = 5;

    public static void main(String[] args) {
        placesOfTables();
        noTablesAtFirst();
        tablesAreApart();
        rowsAsTheyCame();
        rowAtFirst();
        lanesEnds();
        doublesNearest();
        likeByWhatTheyTell();
        lessByWhatTheyTell();
        apartByWhatTheyTell();
        addedByWhatTheyTell();
        sumLawByWhatTheyTell();
        lawsAtFirst();
        lawsOfOtherTables();
        tablesWithoutRows();
        allRowsDropped();
        findingsAndRefusals();
        Due.end();
    }

    /** A bench with TABLE 0 of one COLUMN of the LANE, and a ROW with each number. */
    private static CleaningBench ofLane(int lane, long... numbers) {
        CleaningBench x = new CleaningBench();
        x.table(0, 1, lane);
        for (long v : numbers) {
            Due.row(x, 0, 1, v);
        }
        return x;
    }

    private static void placesOfTables() {
        for (int t : new int[] {Integer.MIN_VALUE, -1, 4, Integer.MAX_VALUE}) {
            CleaningBench x = Due.longs(1);
            Due.is("PLACE: table " + t, x.table(t, 1, 0), CleaningBench.PLACE);
            Due.is("PLACE: row " + t, x.row(t, 1), CleaningBench.PLACE);
            Due.is("PLACE: column " + t, x.column(t, 0, 4), CleaningBench.PLACE);
            Due.is("PLACE: law " + t, x.law(MUST, t, 0, 0, 0, 0), CleaningBench.PLACE);
            Due.is("PLACE: among " + t, x.among(t, 0, 0, 0), CleaningBench.PLACE);
            Due.is("PLACE: among of " + t, x.among(0, 0, t, 0), CleaningBench.PLACE);
            Due.is("PLACE: sum " + t, x.sum(t, 0, true), CleaningBench.PLACE);
            Due.is("PLACE: part " + t, x.part(t), CleaningBench.PLACE);
            Due.is("PLACE: each is counted", x.count(4), 8);
        }
    }

    private static void noTablesAtFirst() {
        for (int t = 0; t < 4; t++) {
            CleaningBench x = new CleaningBench();
            x.table((t + 1) % 4, 1, 4);
            Due.is("NULL: row " + t, x.row(t, 1), CleaningBench.NULL);
            Due.is("NULL: column " + t, x.column(t, 0, 4), CleaningBench.NULL);
            Due.is("NULL: law " + t, x.law(MUST, t, 0, 0, 0, 0), CleaningBench.NULL);
            Due.is("NULL: among " + t, x.among(t, 0, t, 0), CleaningBench.NULL);
            Due.is("NULL: among of " + t, x.among((t + 1) % 4, 0, t, 0), CleaningBench.NULL);
            Due.is("NULL: sum " + t, x.sum(t, 0, true), CleaningBench.NULL);
            Due.is("NULL: part " + t, x.part(t), CleaningBench.NULL);
            Due.is("NULL: each is counted", x.count(4), 7);
            Due.is("NULL: not any more", x.table(t, 1, 4), 1);
            Due.is("NULL: a row", x.row(t, 1), 0);
        }
    }

    private static void tablesAreApart() {
        CleaningBench x = new CleaningBench();
        for (int t = 0; t < 4; t++) {
            Due.is("table " + t, x.table(t, t + 1, t), t + 1);
            Due.is("tables", x.count(6), t + 1);
        }
        for (int t = 0; t < 4; t++) {
            Due.is("last column of " + t, x.column(t, t, BYTES), 0);
            Due.is("first column of " + t, x.column(t, 0, t), 0);
            Due.is("no more columns in " + t, x.column(t, t + 1, 0), CleaningBench.PLACE);
        }
    }

    private static void rowsAsTheyCame() {
        CleaningBench x = Due.longs(1);
        x.table(3, 1, 4);
        x.table(1, 1, 4);
        int[] tables = {0, 3, 3, 1, 0, 1, 3, 0, 0, 1, 3, 1};
        for (int r = 0; r < 12; r++) {
            Due.is("row " + r, x.row(tables[r], 1 + r), r);
        }
        for (int t : new int[] {0, 1, 3}) {
            Due.is("full: of all tables", x.row(t, 1), CleaningBench.FULL);
            Due.is("rows of table " + t, x.column(t, 0, LONGS), 4);
        }
        for (int r = 0; r < 12; r++) {
            Due.is("its table " + r, x.about(r, 0), tables[r]);
            Due.is("its trust " + r, x.about(r, 1), 1 + r);
        }
    }

    private static void rowAtFirst() {
        CleaningBench x = Due.longs(6);
        for (int r = 0; r < 12; r++) {
            x.row(0, 100);
            Due.is("kept at first", x.about(r, 2), 1);
            for (int c = 0; c < 6; c++) {
                Due.is("missing at first", x.has(r, c), 0);
                Due.is("0 at first", x.cell(r, c), 0);
            }
        }
        Due.is("all kept", x.count(5), 12);
    }

    private static void lanesEnds() {
        long[][] ends = {{-128, 127}, {-32768, 32767}, {0, 65535}, {-2147483648L, 2147483647L}, {MIN, MAX}};
        for (int lane = BYTES; lane <= LONGS; lane++) {
            long least = ends[lane][0];
            long greatest = ends[lane][1];
            CleaningBench x = ofLane(lane, least, greatest, least - 1, greatest + 1);
            Due.is("the least of lane " + lane, x.cell(0, 0), least);
            Due.is("the greatest of lane " + lane, x.cell(1, 0), greatest);
            Due.is("one less of lane " + lane, x.cell(2, 0), greatest);
            Due.is("one more of lane " + lane, x.cell(3, 0), least);
        }
    }

    private static void doublesNearest() {
        long[][] due = {
            {0, 0}, {-1, -1}, {ITS_DOUBLE - 1, ITS_DOUBLE - 1}, {NO_DOUBLE, ITS_DOUBLE},
            {NO_DOUBLE + 2, NO_DOUBLE + 3}, {-NO_DOUBLE, -ITS_DOUBLE}, {MAX, MAX}, {MAX - 511, MAX},
            {MAX - 512, MAX - 1023}, {MAX - 1535, MAX - 2047}, {MIN, MIN}, {MIN + 512, MIN}, {MIN + 513, MIN + 1024},
            {-MAX, MIN},
        };
        for (long[] pair : due) {
            Due.is("the double of " + pair[0], ofLane(DOUBLES, pair[0]).cell(0, 0), pair[1]);
        }
    }

    private static void likeByWhatTheyTell() {
        long[][] likes = {{BYTES, 0, 256}, {SHORTS, 1, 65537}, {CHARS, -1, 65535}, {INTS, 5, 4294967301L},
            {DOUBLES, ITS_DOUBLE, NO_DOUBLE}, {DOUBLES, MAX, MAX - 1}};
        for (long[] of : likes) {
            CleaningBench x = ofLane((int) of[0], of[1], of[2]);
            x.table(1, 1, LONGS);
            x.law(APART, 0, 0, 0, 1, 0);
            Due.is("like in lane " + of[0], x.quarrels(0), 1);
            x.among(0, 0, 1, 0);
            int helper = Due.row(x, 1, 1, x.cell(0, 0));
            Due.is("like a long that is told so, lane " + of[0], x.quarrels(1), 0);
            x.put(helper, 0, x.cell(0, 0) - 1);
            Due.is("unlike another, lane " + of[0], x.quarrels(1), 2);
        }
        CleaningBench x = ofLane(LONGS, ITS_DOUBLE, NO_DOUBLE);
        x.law(APART, 0, 0, 0, 1, 0);
        Due.is("unlike as longs", x.quarrels(0), 0);
    }

    private static void lessByWhatTheyTell() {
        long[][] told = {{BYTES, 200, -56}, {SHORTS, 40000, -25536}, {CHARS, -1, 65535}, {INTS, 2147483648L, -2147483648L},
            {LONGS, MIN, MIN}, {DOUBLES, NO_DOUBLE, ITS_DOUBLE}, {DOUBLES, MAX - 1, MAX}};
        for (long[] of : told) {
            CleaningBench x = ofLane((int) of[0], of[1]);
            x.law(SPAN, 0, 0, 0, of[2], of[2]);
            Due.is("SPAN from it to it, lane " + of[0], x.quarrels(0), 0);
            x.law(SPAN, 0, 0, 0, MIN, of[2] - 1);
            x.law(SPAN, 0, 0, 0, of[2] + 1, MAX);
            boolean first = of[2] == MIN;
            boolean last = of[2] == MAX;
            Due.is("SPAN to one less, lane " + of[0], x.quarrels(1), first ? 0 : 1);
            Due.is("SPAN from one more, lane " + of[0], x.quarrels(2), last ? 0 : 1);
        }
    }

    private static void apartByWhatTheyTell() {
        long[][] apart = {{BYTES, 128, 127, 255}, {SHORTS, 32768, 32767, 65535}, {CHARS, -1, 65536, 65535},
            {INTS, 2147483648L, 2147483647L, 4294967295L}, {LONGS, 0, MAX, MAX}, {LONGS, MIN, -1, MAX},
            {DOUBLES, ITS_DOUBLE - 1, NO_DOUBLE, 1}};
        for (long[] of : apart) {
            for (int turn = 0; turn < 2; turn++) {
                CleaningBench x = new CleaningBench();
                x.table(0, 2, (int) of[0] * 10 + BYTES);
                Due.row(x, 0, 1, 0, of[1 + turn]);
                Due.row(x, 0, 1, 0, of[2 - turn]);
                x.law(APART, 0, 0, 1, of[3], 0);
                Due.is("APART by just so much, lane " + of[0], x.quarrels(0), 0);
                if (of[3] < MAX) {
                    x.law(APART, 0, 0, 1, of[3] + 1, 0);
                    Due.is("APART by one less, lane " + of[0], x.quarrels(1), 1);
                }
            }
        }
    }

    private static void addedByWhatTheyTell() {
        long[][] sums = {{BYTES, 100, 100, 200}, {BYTES, 200, 200, -112}, {SHORTS, 32767, 32767, 65534},
            {CHARS, -1, -1, 131070}, {INTS, 2147483647, 1, 2147483648L}, {LONGS, MAX, 1, MIN}, {LONGS, MIN, -1, MAX},
            {LONGS, MIN, MIN, 0}, {DOUBLES, NO_DOUBLE, 1, NO_DOUBLE}, {DOUBLES, MAX - 1, 1, MIN}};
        for (long[] of : sums) {
            CleaningBench x = ofLane((int) of[0], of[1], of[2]);
            Due.is("25: the least sum, lane " + of[0], x.sum(0, 0, false), of[3]);
            Due.is("25: the greatest sum, lane " + of[0], x.sum(0, 0, true), of[3]);
        }
    }

    private static void sumLawByWhatTheyTell() {
        long[][] sums = {{BYTES, 127, 127, 254}, {CHARS, -1, 65535, 131070}, {SHORTS, 1, 65537, 2},
            {DOUBLES, NO_DOUBLE, NO_DOUBLE, 2 * ITS_DOUBLE}, {LONGS, MAX - 1, MAX - 1, MAX}, {LONGS, 1, MAX, MAX}};
        for (long[] of : sums) {
            CleaningBench x = new CleaningBench();
            x.table(0, 2, (int) of[0] * 10 + BYTES);
            Due.row(x, 0, 1, 0, of[1]);
            Due.row(x, 0, 1, 0, of[2]);
            boolean beyond = of[3] == MAX;
            x.law(SUM, 0, 0, 1, of[3], 0);
            Due.is("SUM of as much as most, lane " + of[0], x.quarrels(0), beyond ? 1 : 0);
            x.law(SUM, 0, 0, 1, of[3] - 1, 0);
            Due.is("SUM of one more than most, lane " + of[0], x.quarrels(1) > 0 ? 1 : 0, 1);
        }
        CleaningBench x = ofLane(BYTES, 128, 255, 0);
        x.law(SUM, 0, 0, 0, 0, 0);
        Due.is("SUM: none of them is above 0", x.quarrels(0), 0);
    }

    private static void lawsAtFirst() {
        CleaningBench x = Due.longs(1);
        for (int l = 0; l < 10; l++) {
            Due.is("law " + l, l % 6 == 5 ? x.among(0, 0, 0, 0) : x.law(l % 6, 0, 0, 0, 0, 0), l);
        }
        for (int l = 0; l < 10; l++) {
            Due.is("in force at first", x.force(l, l % 2 == 0), 1);
        }
        for (int l = 0; l < 10; l++) {
            Due.is("each by itself", x.force(l, true), l % 2 == 0 ? 1 : 0);
        }
    }

    private static void lawsOfOtherTables() {
        CleaningBench x = Due.longs(2);
        x.table(1, 2, 44);
        x.law(ALIKE, 0, 0, 1, 0, 0);
        x.law(SPAN, 0, 0, 0, 2, 2);
        x.law(APART, 0, 0, 1, 9, 0);
        x.law(MUST, 0, 1, 0, 0, 0);
        x.law(SUM, 0, 0, 1, 0, 0);
        x.among(0, 0, 0, 1);
        Due.row(x, 1, 1, 1, 5);
        Due.row(x, 1, 1, 1, 6);
        Due.row(x, 1, 1, 1);
        for (int law = 0; law < 6; law++) {
            Due.is("rows of another table, law " + law, x.quarrels(law), 0);
        }
        Due.row(x, 0, 1, 2, 0);
        Due.row(x, 0, 1, 0, 2);
        Due.is("a group is of one table", x.quarrels(0) + x.quarrels(2), 0);
    }

    private static void tablesWithoutRows() {
        CleaningBench x = Due.longs(2);
        x.table(1, 1, 4);
        for (int kind = ALIKE; kind <= SUM; kind++) {
            x.law(kind, 0, 0, 1, 0, -1);
        }
        x.among(0, 0, 1, 0);
        for (int law = 0; law < 6; law++) {
            Due.is("no rows: quarrels of " + law, x.quarrels(law), 0);
            Due.is("no rows: quarrel of " + law, x.quarrel(law, 0), CleaningBench.NONE);
        }
        Due.is("no rows: clean", x.clean(), 1);
        Due.is("no rows: breaks", x.breaks(0), CleaningBench.NONE);
        Due.is("no rows: mends", x.mends(), 1);
        Due.is("no rows: the mending is empty", x.mending(0), 0);
        Due.is("no rows: sum", x.sum(0, 0, false), 0);
        Due.is("no rows: settle", x.settle(0), 0);
        x.part(0);
        Due.is("no rows: stands", x.stands(), 0);
        Due.is("no rows: sure", x.sure(), 0);
        Due.is("no rows: against", x.against(), 0);
    }

    private static void allRowsDropped() {
        CleaningBench x = Due.longs(1);
        for (int r = 0; r < 12; r++) {
            x.row(0, 100);
        }
        x.law(MUST, 0, 0, 0, 0, 0);
        Due.is("all to be dropped: mends", x.mends(), 1);
        Due.is("all to be dropped: the mending", x.mending(0), 4095);
        Due.is("all to be dropped: the greatest price", x.price(), 1200);
        Due.is("all to be dropped: blame", x.blame(11), 1);
        Due.is("all to be dropped: mend", x.mend(), 12);
        Due.is("all dropped: kept", x.count(5), 0);
        Due.is("all dropped: rows", x.count(0), 12);
        Due.is("all dropped: clean", x.clean(), 1);
        Due.is("all dropped: quarrels", x.quarrels(0), 0);
        Due.is("all dropped: mends", x.mends(), 1);
        Due.is("all dropped: best", x.best(), 0);
        Due.is("all dropped: price", x.price(), 0);
        Due.is("all dropped: breaks", x.breaks(0), CleaningBench.NONE);
        Due.is("all dropped: a bit", x.breaks(2048), CleaningBench.BAD);
    }

    private static void findingsAndRefusals() {
        CleaningBench x = Due.longs(1);
        x.law(MUST, 0, 0, 0, 0, 0);
        long[] found = {x.row(1, 1), x.sum(0, 1, true), x.most(0), x.table(1, -1, 0), x.column(0, 0, 0)};
        long[] due = {CleaningBench.NULL, CleaningBench.PLACE, CleaningBench.CAST, CleaningBench.SIZE, CleaningBench.CAST};
        for (int i = 0; i < due.length; i++) {
            Due.is("finding " + i, found[i], due[i]);
        }
        Due.is("each is counted", x.count(4), 5);
        x.put(0, 0, 0);
        x.row(0, 0);
        x.table(0, 1, 4);
        x.count(7);
        x.mending(9);
        Due.is("UNKNOWN, BAD, STATE, NONE are not", x.count(4), 5);
    }
}
