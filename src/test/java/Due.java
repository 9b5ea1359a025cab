/** What a test says: each answer that is not the one that is due, and exit code 1 if there was one. */
final class Due {
    private static int wrong;
    private static int told;

    private Due() {
    }

    static void is(String call, long got, long want) {
        told++;
        if (got != want) {
            wrong++;
            System.out.println(call + " answered " + got + ", due is " + want);
        }
    }

    static void end() {
        System.out.println(told + " answers, " + wrong + " not as due");
        if (wrong != 0) {
            System.exit(1);
        }
    }

    /** A bench with TABLE 0 of so many COLUMNS of longs, without ROWS. */
    static CleaningBench longs(int columns) {
        CleaningBench x = new CleaningBench();
        int lanes = 0;
        for (int c = 0; c < columns; c++) {
            lanes = lanes * 10 + 4;
        }
        x.table(0, columns, lanes);
        return x;
    }

    /** A ROW of TABLE t with these numbers in its first COLUMNS: its number. */
    static int row(CleaningBench x, int t, int trust, long... numbers) {
        int row = x.row(t, trust);
        for (int c = 0; c < numbers.length; c++) {
            x.put(row, c, numbers[c]);
        }
        return row;
    }
}
