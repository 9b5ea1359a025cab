/** Promises 1 to 11. */
public final class TablesTest {
    private static final long MIN = Long.MIN_VALUE, MAX = Long.MAX_VALUE;

    public static void main(String[] args) {
        aNewObject();
        table();
        row();
        putAndCell();
        lanes();
        miss();
        has();
        column();
        trust();
        keep();
        about();
        Due.end();
    }

    private static void aNewObject() {
        CleaningBench x = new CleaningBench();
        for (int what = 0; what <= 6; what++) {
            Due.is("1: count(" + what + ")", x.count(what), 0);
        }
        Due.is("1: stands()", x.stands(), 1);
        Due.is("1: row(3, 1)", x.row(3, 1), CleaningBench.NULL);
        new CleaningBench().table(0, 1, 0);
        Due.is("1: another object's tables", x.count(6), 0);
    }

    private static void table() {
        CleaningBench x = new CleaningBench();
        Due.is("2: t below", x.table(-1, 1, 0), CleaningBench.PLACE);
        Due.is("2: t above", x.table(4, -1, 0), CleaningBench.PLACE);
        Due.is("2: columns below 0", x.table(0, -1, -1), CleaningBench.SIZE);
        Due.is("2: least columns", x.table(0, Integer.MIN_VALUE, 0), CleaningBench.SIZE);
        Due.is("2: three of four were found, one more", x.count(4), 4);
        Due.is("2: no columns", x.table(0, 0, 0), CleaningBench.BAD);
        Due.is("2: seven columns", x.table(0, 7, 0), CleaningBench.BAD);
        Due.is("2: digit 6", x.table(0, 2, 6), CleaningBench.BAD);
        Due.is("2: digit 6 as the highest", x.table(0, 2, 60), CleaningBench.BAD);
        Due.is("2: lanes below 0", x.table(0, 2, -1), CleaningBench.BAD);
        Due.is("2: lanes below 0, tens", x.table(0, 2, -10), CleaningBench.BAD);
        Due.is("2: more digits", x.table(0, 2, 100), CleaningBench.BAD);
        Due.is("2: more digits of 6", x.table(0, 6, 1000000), CleaningBench.BAD);
        Due.is("2: greatest lanes", x.table(0, 6, Integer.MAX_VALUE), CleaningBench.BAD);
        Due.is("2: refusals are not counted", x.count(4), 4);
        Due.is("2: none was made", x.count(6), 0);
        Due.is("2: six columns", x.table(0, 6, 543210), 6);
        Due.is("2: fewer digits", x.table(3, 6, 5), 6);
        Due.is("2: one column", x.table(2, 1, 0), 1);
        Due.is("2: there is one", x.table(0, 6, 543210), CleaningBench.STATE);
        Due.is("2: BAD before STATE", x.table(0, 2, 999), CleaningBench.BAD);
        Due.is("2: SIZE before STATE", x.table(0, -2, 0), CleaningBench.SIZE);
        x.row(0, 1);
        for (int c = 0; c < 6; c++) {
            Due.is("2: lane of column " + c, x.column(0, c, c), 1);
        }
        Due.is("2: lane of a digit not written", x.column(3, 5, 0), 0);
        Due.is("2: lane of the lowest digit", x.column(3, 0, 5), 0);
        Due.is("2: tables", x.count(6), 3);
    }

    private static void row() {
        CleaningBench x = new CleaningBench();
        x.table(1, 1, 4);
        Due.is("3: t below", x.row(-1, 0), CleaningBench.PLACE);
        Due.is("3: t above", x.row(4, 1), CleaningBench.PLACE);
        Due.is("3: no table", x.row(0, 0), CleaningBench.NULL);
        Due.is("3: findings", x.count(4), 3);
        Due.is("3: trust 0", x.row(1, 0), CleaningBench.BAD);
        Due.is("3: trust 101", x.row(1, 101), CleaningBench.BAD);
        Due.is("3: least trust", x.row(1, Integer.MIN_VALUE), CleaningBench.BAD);
        for (int r = 0; r < 12; r++) {
            Due.is("3: row " + r, x.row(1, r == 0 ? 1 : 100), r);
        }
        Due.is("3: full", x.row(1, 1), CleaningBench.FULL);
        Due.is("3: BAD before FULL", x.row(1, 101), CleaningBench.BAD);
        Due.is("3: NULL before FULL", x.row(2, 1), CleaningBench.NULL);
        Due.is("3: rows", x.count(0), 12);
        Due.is("3: kept", x.about(11, 2), 1);
        Due.is("3: missing", x.has(11, 0), 0);
        x.keep(3, false);
        Due.is("3: full, a row dropped", x.row(1, 1), CleaningBench.FULL);
    }

    private static void putAndCell() {
        CleaningBench x = Due.longs(2);
        x.table(1, 1, 4);
        Due.is("4: no row", x.put(0, 9, 1), CleaningBench.UNKNOWN);
        Due.is("7: no row", x.cell(0, 9), CleaningBench.UNKNOWN);
        x.row(0, 1);
        x.row(1, 1);
        Due.is("4: row below", x.put(-1, 0, 1), CleaningBench.UNKNOWN);
        Due.is("4: row above", x.put(2, 0, 1), CleaningBench.UNKNOWN);
        Due.is("4: column below", x.put(0, -1, 1), CleaningBench.PLACE);
        Due.is("4: column above", x.put(0, 2, 1), CleaningBench.PLACE);
        Due.is("4: column of another table", x.put(1, 1, 1), CleaningBench.PLACE);
        Due.is("7: column below", x.cell(0, -1), CleaningBench.PLACE);
        Due.is("7: column above", x.cell(1, 1), CleaningBench.PLACE);
        Due.is("7: row below", x.cell(-1, 0), CleaningBench.UNKNOWN);
        Due.is("4, 7: findings", x.count(4), 5);
        Due.is("7: missing", x.cell(0, 0), 0);
        Due.is("4: put", x.put(0, 0, MIN), 1);
        Due.is("4: put", x.put(0, 1, 7), 1);
        Due.is("7: cell", x.cell(0, 0), MIN);
        Due.is("4: again", x.put(0, 0, MAX), 1);
        Due.is("7: cell", x.cell(0, 0), MAX);
        Due.is("7: the next", x.cell(0, 1), 7);
        Due.is("7: another row", x.cell(1, 0), 0);
        x.keep(0, false);
        Due.is("4: of a dropped row", x.put(0, 0, 5), 1);
        Due.is("7: of a dropped row", x.cell(0, 0), 5);
    }

    private static void lanes() {
        CleaningBench x = new CleaningBench();
        x.table(0, 6, 543210);
        x.row(0, 1);
        long[][] due = {
            {128, -128, 128, 128, 128, 128, 128},
            {-129, 127, -129, 65407, -129, -129, -129},
            {32768, 0, -32768, 32768, 32768, 32768, 32768},
            {-32769, -1, 32767, 32767, -32769, -32769, -32769},
            {65536, 0, 0, 0, 65536, 65536, 65536},
            {2147483648L, 0, 0, 0, -2147483648L, 2147483648L, 2147483648L},
            {-2147483649L, -1, -1, 65535, 2147483647L, -2147483649L, -2147483649L},
            {9007199254740993L, 1, 1, 1, 1, 9007199254740993L, 9007199254740992L},
            {9007199254740995L, 3, 3, 3, 3, 9007199254740995L, 9007199254740996L},
            {-9007199254740993L, -1, -1, 65535, -1, -9007199254740993L, -9007199254740992L},
            {MAX, -1, -1, 65535, -1, MAX, MAX},
            {MAX - 512, -1, -513, 65023, -513, MAX - 512, MAX - 1023},
            {MIN, 0, 0, 0, 0, MIN, MIN},
        };
        for (long[] row : due) {
            for (int c = 0; c < 6; c++) {
                x.put(0, c, row[0]);
                Due.is("4: " + row[0] + " in lane " + c, x.cell(0, c), row[c + 1]);
            }
        }
    }

    private static void miss() {
        CleaningBench x = Due.longs(2);
        Due.is("5: no row", x.miss(0, 0), CleaningBench.UNKNOWN);
        x.row(0, 1);
        Due.is("5: row below", x.miss(-1, 0), CleaningBench.UNKNOWN);
        Due.is("5: column below", x.miss(0, -1), CleaningBench.PLACE);
        Due.is("5: column above", x.miss(0, 2), CleaningBench.PLACE);
        Due.is("5: it was", x.miss(0, 0), 1);
        x.put(0, 0, 5);
        x.put(0, 1, 6);
        Due.is("5: it was not", x.miss(0, 0), 0);
        Due.is("5: it is now", x.miss(0, 0), 1);
        Due.is("5: 0 then", x.cell(0, 0), 0);
        Due.is("5: the other stays", x.cell(0, 1), 6);
        x.put(0, 0, 0);
        Due.is("5: 0 is there", x.miss(0, 0), 0);
    }

    private static void has() {
        CleaningBench x = Due.longs(2);
        Due.is("6: no row", x.has(0, 0), CleaningBench.UNKNOWN);
        x.row(0, 1);
        Due.is("6: row below", x.has(-1, 0), CleaningBench.UNKNOWN);
        Due.is("6: column below", x.has(0, -1), CleaningBench.PLACE);
        Due.is("6: column above", x.has(0, 2), CleaningBench.PLACE);
        Due.is("6: at first", x.has(0, 1), 0);
        x.put(0, 1, 0);
        Due.is("6: a 0", x.has(0, 1), 1);
        Due.is("6: the other", x.has(0, 0), 0);
        x.miss(0, 1);
        Due.is("6: missing", x.has(0, 1), 0);
    }

    private static void column() {
        CleaningBench x = new CleaningBench();
        x.table(0, 2, 50);
        x.table(1, 1, 3);
        Due.is("8: t", x.column(4, 0, 9), CleaningBench.PLACE);
        Due.is("8: no table", x.column(2, 0, 9), CleaningBench.NULL);
        Due.is("8: lane below", x.column(0, 9, -1), CleaningBench.BAD);
        Due.is("8: lane above", x.column(0, 0, 6), CleaningBench.BAD);
        Due.is("8: column below", x.column(0, -1, 0), CleaningBench.PLACE);
        Due.is("8: column above", x.column(0, 2, 0), CleaningBench.PLACE);
        Due.is("8: another lane", x.column(0, 0, 5), CleaningBench.CAST);
        Due.is("8: another lane", x.column(0, 1, 0), CleaningBench.CAST);
        Due.is("8: findings", x.count(4), 6);
        Due.is("8: no rows", x.column(0, 0, 0), 0);
        x.row(0, 1);
        x.row(1, 1);
        x.row(0, 1);
        x.keep(0, false);
        Due.is("8: rows, a dropped one too", x.column(0, 1, 5), 2);
        Due.is("8: rows of the other", x.column(1, 0, 3), 1);
    }

    private static void trust() {
        CleaningBench x = Due.longs(1);
        Due.is("9: no row", x.trust(0, 0), CleaningBench.UNKNOWN);
        x.row(0, 7);
        Due.is("9: row below", x.trust(-1, 1), CleaningBench.UNKNOWN);
        Due.is("9: 0", x.trust(0, 0), CleaningBench.BAD);
        Due.is("9: 101", x.trust(0, 101), CleaningBench.BAD);
        Due.is("9: 100", x.trust(0, 100), 7);
        Due.is("9: 1", x.trust(0, 1), 100);
        Due.is("9: it has it", x.about(0, 1), 1);
        Due.is("9: no findings", x.count(4), 0);
    }

    private static void keep() {
        CleaningBench x = Due.longs(1);
        Due.is("10: no row", x.keep(0, false), CleaningBench.UNKNOWN);
        x.row(0, 1);
        Due.is("10: row below", x.keep(-1, false), CleaningBench.UNKNOWN);
        Due.is("10: it was", x.keep(0, true), 1);
        Due.is("10: it was", x.keep(0, false), 1);
        Due.is("10: it was not", x.keep(0, false), 0);
        Due.is("10: kept rows", x.count(5), 0);
        Due.is("10: rows", x.count(0), 1);
        Due.is("10: it was not", x.keep(0, true), 0);
        Due.is("10: kept rows", x.count(5), 1);
    }

    private static void about() {
        CleaningBench x = Due.longs(1);
        x.table(3, 1, 0);
        Due.is("11: no row", x.about(0, 9), CleaningBench.UNKNOWN);
        x.row(3, 42);
        Due.is("11: row below", x.about(-1, 0), CleaningBench.UNKNOWN);
        Due.is("11: its table", x.about(0, 0), 3);
        Due.is("11: its trust", x.about(0, 1), 42);
        Due.is("11: kept", x.about(0, 2), 1);
        x.keep(0, false);
        Due.is("11: dropped", x.about(0, 2), 0);
        Due.is("11: what below", x.about(0, -1), CleaningBench.BAD);
        Due.is("11: what above", x.about(0, 3), CleaningBench.BAD);
    }
}
