/**
 * An object that is as full as can be: 4 TABLES, 12 ROWS, 10 LAWS, 3 PARTS, 6 JOINS. Each call is the
 * first after the object was made, so none can lean on what an earlier one found.
 */
public final class FullTest {
    private static final int ALIKE = 0, SPAN = 1, APART = 2, MUST = 3, SUM = 4;

    public static void main(String[] args) {
        tablesAndRows();
        laws();
        mendings();
        settle();
        questions();
        kinds();
        Due.end();
    }

    /** Of 12 ROWS of TABLE 0, all in one group, the last one alone has 6 in COLUMN 1, the others have 5. */
    private static CleaningBench full() {
        CleaningBench x = Due.longs(6);
        for (int t = 1; t < 4; t++) {
            x.table(t, 6, 444444);
        }
        for (int r = 0; r < 12; r++) {
            Due.row(x, 0, r == 11 ? 100 : 9, 1, r == 11 ? 6 : 5, r, -r, 1);
        }
        for (int l = 0; l < 9; l++) {
            x.law(SPAN, 0, 0, 0, 1, 1);
        }
        x.law(ALIKE, 0, 0, 1, 0, 0);
        for (int p = 0; p < 3; p++) {
            x.part(0);
        }
        for (int j = 0; j < 5; j++) {
            x.join(j % 3, 0, (j + 1) % 3, 4);
        }
        x.join(2, 1, 2, 1);
        return x;
    }

    private static void tablesAndRows() {
        Due.is("4: the last cell", full().put(11, 5, 3), 1);
        Due.is("5: the last cell", full().miss(11, 5), 1);
        Due.is("6: the last cell", full().has(11, 5), 0);
        Due.is("7: the last row", full().cell(11, 1), 6);
        Due.is("8: all rows", full().column(0, 5, 4), 12);
        Due.is("8: none", full().column(3, 5, 4), 0);
        Due.is("9: the last row", full().trust(11, 1), 100);
        Due.is("10: the last row", full().keep(11, false), 1);
        Due.is("11: the last row", full().about(11, 1), 100);
        int[] counts = {12, 10, 3, 6, 0, 12, 4};
        for (int what = 0; what < 7; what++) {
            Due.is("36: count(" + what + ")", full().count(what), counts[what]);
        }
    }

    private static void laws() {
        Due.is("14: the last law", full().force(9, false), 1);
        Due.is("15: the last law", full().most(9), CleaningBench.CAST);
        Due.is("16: the last law", full().quarrels(9), 11);
        Due.is("17: the first", full().quarrel(9, 0), 1 << 11 | 1);
        Due.is("17: the last", full().quarrel(9, 10), 1 << 11 | 1 << 10);
        Due.is("17: none", full().quarrel(9, 11), CleaningBench.NONE);
        Due.is("18: the last law is broken", full().clean(), 0);
        Due.is("19: the last law is broken", full().breaks(4095), 9);
        Due.is("19: by the last two", full().breaks(3 << 10), 9);
        Due.is("19: by none without the last", full().breaks(2047), CleaningBench.NONE);
        Due.is("19: by none alone", full().breaks(2048), CleaningBench.NONE);
        Due.is("19: a bit above", full().breaks(4096), CleaningBench.BAD);
        CleaningBench x = full();
        x.force(9, false);
        Due.is("18: not in force", x.clean(), 1);
        Due.is("19: not in force", x.breaks(4095), CleaningBench.NONE);
    }

    private static void mendings() {
        Due.is("20: two", full().mends(), 2);
        Due.is("21: the first", full().mending(0), 2047);
        Due.is("21: the second", full().mending(1), 2048);
        Due.is("21: none", full().mending(2), CleaningBench.NONE);
        Due.is("22: eleven of 9, one of 100", full().price(), 99);
        Due.is("23: the first", full().best(), 2047);
        Due.is("24: the last row", full().blame(11), 1);
        Due.is("24: the first row", full().blame(0), 1);
        Due.is("25: the last left", full().sum(0, 2, false), 11);
        Due.is("25: the others left", full().sum(0, 2, true), 55);
        Due.is("25: the least below 0", full().sum(0, 3, false), -55);
        Due.is("25: the greatest below 0", full().sum(0, 3, true), -11);
        Due.is("25: all missing", full().sum(0, 5, true), 0);
        Due.is("25: no rows of it", full().sum(3, 5, false), 0);
        Due.is("26: all but the last", full().mend(), 11);
        CleaningBench x = full();
        x.mend();
        Due.is("26: the last stays", x.about(11, 2), 1);
        Due.is("26: one is kept", x.count(5), 1);
        Due.is("26: nothing more", x.mend(), 0);
        x = full();
        x.trust(11, 98);
        Due.is("26: the last", x.mend(), 1);
        Due.is("26: it is dropped", x.about(11, 2), 0);
    }

    private static void settle() {
        CleaningBench x = full();
        Due.is("27: eleven become 6", x.settle(9), 11);
        Due.is("27: the first", x.cell(0, 1), 6);
        Due.is("27: the last but one", x.cell(10, 1), 6);
        Due.is("18: clean then", x.clean(), 1);
        x = full();
        x.trust(11, 99);
        Due.is("27: of several the least", x.settle(9), 1);
        Due.is("27: the last", x.cell(11, 1), 5);
    }

    private static void questions() {
        Due.is("28: three parts", full().ask(), 3);
        Due.is("30: the last part", full().tell(2, 5, 1), 1);
        Due.is("32: it stands", full().stands(), 1);
        Due.is("33: in both", full().often(), 2);
        Due.is("34: in both", full().sure(), 2);
        Due.is("35: none", full().against(), CleaningBench.NONE);
        CleaningBench x = full();
        x.tell(2, 1, 6);
        Due.is("32: by the last row", x.stands(), 1);
        Due.is("33: in the first", x.often(), 1);
        Due.is("34: in one", x.sure(), 1);
        Due.is("35: the second", x.against(), 2048);
        x.tell(0, 1, 5);
        Due.is("34: never both", x.sure(), 0);
        Due.is("35: the first", x.against(), 2047);
        x.ask();
        for (int p = 0; p < 3; p++) {
            Due.is("29: after ask", x.part(0), p);
        }
        for (int j = 1; j <= 6; j++) {
            Due.is("31: after ask", x.join(2, 5, 2, 5), j);
        }
        Due.is("31: full again", x.join(0, 0, 0, 0), CleaningBench.FULL);
        Due.is("32: missing ones are like none", x.stands(), 0);
    }

    private static void kinds() {
        CleaningBench x = Due.longs(3);
        for (int r = 0; r < 12; r++) {
            Due.row(x, 0, 1, 1, 11 - r);
        }
        x.law(SPAN, 0, 1, 0, 1, 11);
        x.law(APART, 0, 0, 1, 2, 0);
        x.law(MUST, 0, 2, 0, 0, 0);
        x.law(SUM, 0, 0, 1, 65, 0);
        x.among(0, 0, 0, 2);
        Due.is("SPAN: one", x.quarrels(0), 1);
        Due.is("SPAN: the last row", x.quarrel(0, 0), 2048);
        Due.is("APART: each with the next", x.quarrels(1), 11);
        Due.is("APART: the last two", x.quarrel(1, 10), 3 << 10);
        Due.is("MUST: all", x.quarrels(2), 12);
        Due.is("MUST: the last row", x.quarrel(2, 11), 2048);
        Due.is("SUM: all but the last, which has 0", x.quarrels(3), 1);
        Due.is("SUM: the first eleven", x.quarrel(3, 0), 2047);
        Due.is("AMONG: all", x.quarrels(4), 12);
        x.put(11, 2, 1);
        Due.is("AMONG: none, by the last row", x.quarrels(4), 0);
        for (int l = 0; l < 4; l++) {
            x.force(l, false);
        }
        Due.is("AMONG: nothing to mend", x.mends(), 1);
        x.force(0, true);
        Due.is("AMONG: all hang on the last row", x.mending(0), 4095);
    }
}
