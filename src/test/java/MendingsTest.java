/** Promises 20 to 27. */
public final class MendingsTest {
    private static final long MIN = Long.MIN_VALUE, MAX = Long.MAX_VALUE;
    private static final int ALIKE = 0, SPAN = 1, APART = 2, MUST = 3, SUM = 4;

    public static void main(String[] args) {
        nothingToMend();
        twoSides();
        single();
        chainOfAmong();
        amongThatHelps();
        amongMissing();
        manyMendings();
        droppedRows();
        priceAndBest();
        bestOfThree();
        fewerThanBefore();
        blame();
        sumRefused();
        sum();
        mend();
        settleRefused();
        settle();
        settleMissing();
        Due.end();
    }

    private static void mendingsAre(String about, CleaningBench x, int... due) {
        Due.is(about + ": mends", x.mends(), due.length);
        for (int i = 0; i < due.length; i++) {
            Due.is(about + ": mending " + i, x.mending(i), due[i]);
        }
        Due.is(about + ": one more", x.mending(due.length), CleaningBench.NONE);
        Due.is(about + ": one before", x.mending(-1), CleaningBench.NONE);
    }

    private static void nothingToMend() {
        CleaningBench x = Due.longs(2);
        mendingsAre("no rows", x, 0);
        Due.row(x, 0, 1, 1, 5);
        Due.row(x, 0, 1, 1, 6);
        mendingsAre("no laws", x, 0);
        x.law(ALIKE, 0, 0, 1, 0, 0);
        x.force(0, false);
        mendingsAre("not in force", x, 0);
        Due.is("22: price", x.price(), 0);
        Due.is("23: best", x.best(), 0);
        Due.is("24: blame", x.blame(1), 0);
        Due.is("26: mend", x.mend(), 0);
        Due.is("21: greatest i", x.mending(Integer.MAX_VALUE), CleaningBench.NONE);
        Due.is("21: least i", x.mending(Integer.MIN_VALUE), CleaningBench.NONE);
    }

    private static void twoSides() {
        CleaningBench x = Due.longs(2);
        Due.row(x, 0, 1, 1, 5);
        Due.row(x, 0, 1, 1, 6);
        Due.row(x, 0, 1, 1, 5);
        Due.row(x, 0, 1, 2, 5);
        Due.row(x, 0, 1, 2, 6);
        x.law(ALIKE, 0, 0, 1, 0, 0);
        mendingsAre("ALIKE", x, 0b01010, 0b01101, 0b10010, 0b10101);
        x.law(SPAN, 0, 1, 0, 6, 6);
        mendingsAre("ALIKE and SPAN", x, 0b01101);
    }

    private static void single() {
        CleaningBench x = Due.longs(1);
        Due.row(x, 0, 1);
        Due.row(x, 0, 1, 3);
        Due.row(x, 0, 1);
        x.law(MUST, 0, 0, 0, 0, 0);
        mendingsAre("MUST", x, 0b101);
    }

    private static void chainOfAmong() {
        CleaningBench x = Due.longs(2);
        Due.row(x, 0, 1, 0, 0);
        Due.row(x, 0, 1, 0, 1);
        Due.row(x, 0, 1, 1, 2);
        Due.row(x, 0, 1, 2, 3);
        x.among(0, 0, 0, 1);
        mendingsAre("all hang on the first", x, 0);
        x.law(SPAN, 0, 1, 0, 1, 9);
        mendingsAre("without it none stays", x, 0b1111);
        x.force(1, false);
        x.law(SPAN, 0, 1, 0, 0, 2);
        mendingsAre("the last alone", x, 0b1000);
    }

    private static void amongThatHelps() {
        CleaningBench x = Due.longs(2);
        x.table(1, 2, 44);
        Due.row(x, 0, 1, 1, 0);
        Due.row(x, 1, 1, 1, 7);
        Due.row(x, 1, 1, 1, 8);
        x.law(ALIKE, 1, 0, 1, 0, 0);
        x.among(0, 0, 1, 0);
        mendingsAre("each of two helps", x, 0b010, 0b100);
        x.keep(2, false);
        x.law(SPAN, 1, 1, 0, 9, 9);
        mendingsAre("the last of them", x, 0b011);
    }

    private static void amongMissing() {
        CleaningBench x = Due.longs(2);
        x.table(1, 2, 44);
        Due.row(x, 0, 1, 3);
        mendingsAre("no law", x, 0);
        x.among(0, 0, 1, 1);
        mendingsAre("no row of the other table", x, 1);
        int second = Due.row(x, 0, 1, 0, 4);
        x.miss(second, 0);
        mendingsAre("a missing cell breaks nothing", x, 1);
        Due.row(x, 1, 1, 0);
        x.put(second, 0, 0);
        mendingsAre("a missing cell helps none", x, 3);
    }

    private static void manyMendings() {
        CleaningBench x = Due.longs(2);
        for (int r = 0; r < 12; r++) {
            Due.row(x, 0, 1 + r, 1, 1);
        }
        x.law(SUM, 0, 0, 1, 6, 0);
        Due.is("16: most quarrels of 7", x.quarrels(0), 792);
        Due.is("17: the first", x.quarrel(0, 0), 0b1111111);
        Due.is("17: the last", x.quarrel(0, 791), 0b111111100000);
        Due.is("20: as many as can be", x.mends(), 924);
        Due.is("21: the first", x.mending(0), 0b111111);
        Due.is("21: the second", x.mending(1), 0b1011111);
        Due.is("21: the last", x.mending(923), 0b111111000000);
        Due.is("22: price", x.price(), 21);
        Due.is("24: blame", x.blame(11), 462);
        x.law(APART, 0, 0, 1, 1, 0);
        Due.is("20: all but one", x.mends(), 12);
        Due.is("21: the last stays", x.mending(0), 0b11111111111);
    }

    private static void droppedRows() {
        CleaningBench x = Due.longs(2);
        Due.row(x, 0, 1, 1, 5);
        Due.row(x, 0, 1, 1, 6);
        Due.row(x, 0, 1, 1, 7);
        x.law(ALIKE, 0, 0, 1, 0, 0);
        mendingsAre("all kept", x, 0b011, 0b101, 0b110);
        x.keep(1, false);
        mendingsAre("one dropped", x, 0b001, 0b100);
        x.keep(0, false);
        mendingsAre("two dropped", x, 0);
        x.keep(1, true);
        mendingsAre("one kept again", x, 0b010, 0b100);
    }

    private static void priceAndBest() {
        CleaningBench x = Due.longs(2);
        Due.row(x, 0, 50, 1, 5);
        Due.row(x, 0, 99, 1, 6);
        Due.row(x, 0, 49, 1, 5);
        x.law(ALIKE, 0, 0, 1, 0, 0);
        mendingsAre("22", x, 0b010, 0b101);
        Due.is("22: of one", x.price(), 99);
        Due.is("23: of several the first", x.best(), 0b010);
        x.trust(1, 100);
        Due.is("22: of two", x.price(), 99);
        Due.is("23: the second", x.best(), 0b101);
        x.trust(0, 51);
        Due.is("23: as dear again", x.best(), 0b010);
    }

    private static void bestOfThree() {
        int[][] prices = {{10, 5, 7}, {5, 7, 10}, {10, 7, 5}, {7, 5, 5}, {5, 7, 5}, {100, 100, 100}};
        int[] cheapest = {1, 0, 2, 1, 0, 0};
        for (int i = 0; i < prices.length; i++) {
            CleaningBench x = Due.longs(1);
            for (int r = 0; r < 3; r++) {
                Due.row(x, 0, prices[i][r], 7);
            }
            x.law(SUM, 0, 0, 0, 14, 0);
            Due.is("23: best of three, case " + i, x.best(), 1 << cheapest[i]);
            Due.is("22: price of three, case " + i, x.price(), prices[i][cheapest[i]]);
            Due.is("26: one is dropped, case " + i, x.mend(), 1);
            Due.is("26: the cheapest, case " + i, x.about(cheapest[i], 2), 0);
        }
    }

    private static void fewerThanBefore() {
        CleaningBench x = Due.longs(2);
        for (int r = 0; r < 12; r++) {
            Due.row(x, 0, 1, 1, r);
        }
        x.law(ALIKE, 0, 0, 1, 0, 0);
        x.part(0);
        x.tell(0, 1, 0);
        Due.is("20: twelve", x.mends(), 12);
        Due.is("33: in the one that leaves row 0", x.often(), 1);
        x.law(SPAN, 0, 1, 0, 0, 0);
        Due.is("35: none of fewer", x.against(), CleaningBench.NONE);
        Due.is("33: of fewer", x.often(), 1);
        Due.is("34: of fewer", x.sure(), 2);
        Due.is("25: the greatest of fewer", x.sum(0, 1, true), 0);
        Due.is("24: of fewer", x.blame(0), 0);
        Due.is("24: of fewer", x.blame(11), 1);
        Due.is("21: one", x.mending(1), CleaningBench.NONE);
        Due.is("20: one", x.mends(), 1);
        x.force(0, false);
        x.force(1, false);
        Due.is("23: nothing to mend any more", x.best(), 0);
    }

    private static void blame() {
        CleaningBench x = Due.longs(2);
        Due.is("24: no row", x.blame(0), CleaningBench.UNKNOWN);
        Due.row(x, 0, 1, 1, 5);
        Due.row(x, 0, 1, 1, 6);
        Due.row(x, 0, 1, 1, 7);
        Due.row(x, 0, 1, 2, 7);
        x.law(ALIKE, 0, 0, 1, 0, 0);
        Due.is("24: row below", x.blame(-1), CleaningBench.UNKNOWN);
        Due.is("24: row above", x.blame(4), CleaningBench.UNKNOWN);
        Due.is("24: in two of three", x.blame(0), 2);
        Due.is("24: in none", x.blame(3), 0);
        x.keep(0, false);
        Due.is("24: dropped", x.blame(0), 0);
        Due.is("24: in one of two", x.blame(1), 1);
    }

    private static void sumRefused() {
        CleaningBench x = Due.longs(2);
        Due.is("25: t below", x.sum(-1, 9, true), CleaningBench.PLACE);
        Due.is("25: t above", x.sum(4, 9, true), CleaningBench.PLACE);
        Due.is("25: no table", x.sum(1, 9, true), CleaningBench.NULL);
        Due.is("25: column below", x.sum(0, -1, true), CleaningBench.PLACE);
        Due.is("25: column above", x.sum(0, 2, true), CleaningBench.PLACE);
        Due.is("25: findings", x.count(4), 5);
        Due.is("25: no rows", x.sum(0, 0, true), 0);
    }

    private static void sum() {
        CleaningBench x = Due.longs(3);
        x.table(1, 1, 0);
        Due.row(x, 0, 1, 1, 5, -10);
        Due.row(x, 0, 1, 1, 6, -20);
        Due.row(x, 0, 1, 2, 7, -40);
        Due.row(x, 1, 1, 100);
        x.law(ALIKE, 0, 0, 1, 0, 0);
        Due.is("25: the least", x.sum(0, 1, false), 12);
        Due.is("25: the greatest", x.sum(0, 1, true), 13);
        Due.is("25: the least, below 0", x.sum(0, 2, false), -60);
        Due.is("25: the greatest, below 0", x.sum(0, 2, true), -50);
        Due.is("25: of another table", x.sum(1, 0, false), 100);
        x.miss(2, 2);
        Due.is("25: one missing", x.sum(0, 2, true), -10);
        x.keep(2, false);
        Due.is("25: one dropped", x.sum(0, 1, true), 6);
        x.keep(2, true);
        x.put(2, 2, MAX);
        x.put(0, 2, 1);
        x.put(1, 2, 0);
        Due.is("25: wrapping", x.sum(0, 2, false), MIN);
        Due.is("25: not wrapping", x.sum(0, 2, true), MAX);
    }

    private static void mend() {
        CleaningBench x = Due.longs(2);
        Due.row(x, 0, 3, 1, 5);
        Due.row(x, 0, 9, 1, 6);
        Due.row(x, 0, 4, 1, 5);
        Due.row(x, 0, 1, 1, 6);
        x.law(ALIKE, 0, 0, 1, 0, 0);
        Due.is("26: two", x.mend(), 2);
        Due.is("26: dropped", x.about(0, 2), 0);
        Due.is("26: kept", x.about(1, 2), 1);
        Due.is("26: dropped", x.about(2, 2), 0);
        Due.is("26: kept", x.about(3, 2), 1);
        Due.is("26: clean", x.clean(), 1);
        Due.is("26: nothing more", x.mend(), 0);
        Due.is("26: cells stay", x.cell(0, 1), 5);
    }

    private static void settleRefused() {
        CleaningBench x = Due.longs(2);
        Due.is("27: no law", x.settle(0), CleaningBench.UNKNOWN);
        x.law(APART, 0, 1, 1, 0, 0);
        x.law(ALIKE, 0, 1, 1, 0, 0);
        x.among(0, 0, 0, 1);
        Due.is("27: law below", x.settle(-1), CleaningBench.UNKNOWN);
        Due.is("27: law above", x.settle(3), CleaningBench.UNKNOWN);
        Due.is("27: no ALIKE", x.settle(0), CleaningBench.CAST);
        Due.is("27: no ALIKE", x.settle(2), CleaningBench.CAST);
        Due.is("27: x is y", x.settle(1), CleaningBench.STATE);
        Due.is("27: findings", x.count(4), 2);
    }

    private static void settle() {
        CleaningBench x = Due.longs(2);
        Due.row(x, 0, 5, 1, 8);
        Due.row(x, 0, 9, 1, 7);
        Due.row(x, 0, 5, 1, 8);
        Due.row(x, 0, 10, 1, 6);
        Due.row(x, 0, 4, 2, 9);
        Due.row(x, 0, 4, 2, -3);
        Due.row(x, 0, 100, 3, 1);
        x.law(ALIKE, 0, 0, 1, 0, 0);
        x.force(0, false);
        Due.is("27: of several the least, not in force", x.settle(0), 4);
        for (int r = 0; r < 4; r++) {
            Due.is("27: the least of 6 and 8", x.cell(r, 1), 6);
        }
        Due.is("27: the least of -3 and 9", x.cell(4, 1), -3);
        Due.is("27: it was it", x.cell(5, 1), -3);
        Due.is("27: alone", x.cell(6, 1), 1);
        Due.is("27: x stays", x.cell(0, 0), 1);
        Due.is("27: nothing more", x.settle(0), 0);
        x.trust(6, 1);
        Due.is("27: alone with the least trust", x.settle(0), 0);
        x.put(0, 1, 8);
        x.put(2, 1, 8);
        x.trust(2, 100);
        x.keep(3, false);
        Due.is("27: the most trust together", x.settle(0), 1);
        Due.is("27: it became", x.cell(1, 1), 8);
        Due.is("27: a dropped one stays", x.cell(3, 1), 6);
        x.keep(2, false);
        x.keep(3, true);
        x.trust(3, 15);
        Due.is("27: a dropped one's trust does not count", x.settle(0), 2);
        Due.is("27: it became", x.cell(0, 1), 6);
        Due.is("27: a dropped one stays", x.cell(2, 1), 8);
    }

    private static void settleMissing() {
        CleaningBench x = Due.longs(2);
        Due.row(x, 0, 1, 1, 8);
        Due.row(x, 0, 90, 1);
        Due.row(x, 0, 2, 1, -8);
        int none = Due.row(x, 0, 100, 1, 50);
        x.miss(none, 0);
        Due.row(x, 0, 100, 0, 51);
        x.table(1, 2, 44);
        Due.row(x, 1, 100, 1, 52);
        x.law(ALIKE, 0, 0, 1, 0, 0);
        Due.is("27: one became another", x.settle(0), 1);
        Due.is("27: it became", x.cell(0, 1), -8);
        Due.is("27: missing ones stay so", x.has(1, 1), 0);
        Due.is("27: no group without x", x.cell(none, 1), 50);
        Due.is("27: nor with a 0", x.cell(4, 1), 51);
        Due.is("27: another table", x.cell(5, 1), 52);
        x.put(0, 1, MIN);
        x.put(2, 1, MAX);
        x.trust(0, 2);
        Due.is("27: the longs' ends", x.settle(0), 1);
        Due.is("27: the least of them", x.cell(2, 1), MIN);
    }
}
