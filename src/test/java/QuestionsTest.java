/** Promises 28 to 36. */
public final class QuestionsTest {
    private static final int ALIKE = 0, SPAN = 1;

    public static void main(String[] args) {
        ask();
        part();
        tellRefused();
        tell();
        tellOfLanes();
        joinRefused();
        join();
        joinMissing();
        threeParts();
        oftenAndSure();
        against();
        count();
        Due.end();
    }

    private static void ask() {
        CleaningBench x = Due.longs(2);
        Due.is("28: no parts", x.ask(), 0);
        x.part(0);
        x.part(0);
        x.tell(0, 0, 5);
        x.join(0, 0, 1, 1);
        Due.is("32: no rows", x.stands(), 0);
        Due.is("28: two parts", x.ask(), 2);
        Due.is("28: parts", x.count(2), 0);
        Due.is("28: joins", x.count(3), 0);
        Due.is("32: no parts", x.stands(), 1);
        Due.row(x, 0, 1);
        Due.is("28: from 0 again", x.part(0), 0);
        Due.is("28: nothing is told of it", x.stands(), 1);
        Due.is("28: one part", x.ask(), 1);
    }

    private static void part() {
        CleaningBench x = Due.longs(1);
        Due.is("29: t below", x.part(-1), CleaningBench.PLACE);
        Due.is("29: t above", x.part(4), CleaningBench.PLACE);
        Due.is("29: no table", x.part(1), CleaningBench.NULL);
        Due.is("29: findings", x.count(4), 3);
        for (int p = 0; p < 3; p++) {
            Due.is("29: part " + p, x.part(0), p);
        }
        Due.is("29: full", x.part(0), CleaningBench.FULL);
        Due.is("29: NULL before FULL", x.part(1), CleaningBench.NULL);
        Due.is("29: parts", x.count(2), 3);
    }

    private static void tellRefused() {
        CleaningBench x = Due.longs(2);
        Due.is("30: no part", x.tell(0, 9, 1), CleaningBench.UNKNOWN);
        x.part(0);
        Due.is("30: part below", x.tell(-1, 0, 1), CleaningBench.UNKNOWN);
        Due.is("30: part above", x.tell(1, 0, 1), CleaningBench.UNKNOWN);
        Due.is("30: column below", x.tell(0, -1, 1), CleaningBench.PLACE);
        Due.is("30: column above", x.tell(0, 2, 1), CleaningBench.PLACE);
        Due.is("30: findings", x.count(4), 2);
    }

    private static void tell() {
        CleaningBench x = Due.longs(2);
        x.table(1, 2, 44);
        Due.row(x, 0, 1, 1, 5);
        Due.row(x, 0, 1, 2, 6);
        Due.row(x, 1, 1, 3, 7);
        x.part(0);
        Due.is("30: tell", x.tell(0, 0, 1), 1);
        Due.is("32: one has it", x.stands(), 1);
        x.tell(0, 1, 6);
        Due.is("32: no one has both", x.stands(), 0);
        Due.is("30: instead", x.tell(0, 0, 2), 1);
        Due.is("32: one has both", x.stands(), 1);
        x.keep(1, false);
        Due.is("32: it is dropped", x.stands(), 0);
        x.keep(1, true);
        x.tell(0, 0, 3);
        x.tell(0, 1, 7);
        Due.is("32: one of another table has both", x.stands(), 0);
        x.ask();
        x.part(0);
        x.tell(0, 0, 0);
        x.miss(0, 0);
        Due.is("32: a missing one is no 0", x.stands(), 0);
    }

    private static void tellOfLanes() {
        CleaningBench x = new CleaningBench();
        x.table(0, 2, 50);
        Due.row(x, 0, 1, 300, 9007199254740993L);
        x.part(0);
        x.tell(0, 0, 44);
        Due.is("30: as it lies there", x.stands(), 1);
        x.tell(0, 0, 300);
        Due.is("30: a number that no byte is", x.stands(), 0);
        x.tell(0, 0, 44);
        x.tell(0, 1, 9007199254740992L);
        Due.is("30: as the double tells", x.stands(), 1);
        x.tell(0, 1, 9007199254740993L);
        Due.is("30: a number that no double is", x.stands(), 0);
    }

    private static void joinRefused() {
        CleaningBench x = Due.longs(2);
        x.table(1, 1, 0);
        Due.is("31: no parts", x.join(0, 9, 0, 9), CleaningBench.UNKNOWN);
        x.part(0);
        Due.is("31: p above", x.join(1, 9, 0, 9), CleaningBench.UNKNOWN);
        Due.is("31: q above, before c", x.join(0, 9, 1, 9), CleaningBench.UNKNOWN);
        Due.is("31: p below", x.join(-1, 0, 0, 0), CleaningBench.UNKNOWN);
        Due.is("31: q below", x.join(0, 0, -1, 0), CleaningBench.UNKNOWN);
        x.part(1);
        Due.is("31: findings", x.count(4), 0);
        Due.is("31: c above", x.join(1, 1, 0, 1), CleaningBench.PLACE);
        Due.is("31: c below", x.join(0, -1, 1, 0), CleaningBench.PLACE);
        Due.is("31: d above", x.join(0, 1, 1, 1), CleaningBench.PLACE);
        Due.is("31: d below", x.join(0, 1, 1, -1), CleaningBench.PLACE);
        Due.is("31: both, found once", x.join(0, 2, 1, 1), CleaningBench.PLACE);
        Due.is("31: findings", x.count(4), 5);
        for (int j = 1; j <= 6; j++) {
            Due.is("31: join " + j, x.join(0, 1, 0, 1), j);
        }
        Due.is("31: full", x.join(0, 0, 1, 0), CleaningBench.FULL);
        Due.is("31: PLACE before FULL", x.join(0, 2, 1, 0), CleaningBench.PLACE);
        Due.is("31: UNKNOWN before FULL", x.join(2, 0, 1, 0), CleaningBench.UNKNOWN);
        Due.is("31: joins", x.count(3), 6);
    }

    private static void join() {
        CleaningBench x = Due.longs(2);
        x.table(1, 1, 5);
        Due.row(x, 0, 1, 1, 7);
        Due.row(x, 0, 1, 7, 2);
        Due.row(x, 1, 1, 3);
        x.part(0);
        x.part(0);
        x.join(0, 1, 1, 0);
        Due.is("32: 7 and 7", x.stands(), 1);
        x.join(0, 0, 1, 1);
        Due.is("32: 1 and 2", x.stands(), 0);
        x.put(1, 1, 1);
        Due.is("32: 1 and 1", x.stands(), 1);
        x.keep(1, false);
        Due.is("32: dropped", x.stands(), 0);
        x.keep(1, true);
        x.ask();
        x.part(0);
        x.part(1);
        x.join(1, 0, 0, 1);
        Due.is("32: no like one", x.stands(), 0);
        x.put(2, 0, 7);
        Due.is("32: a double like a long", x.stands(), 1);
        x.ask();
        x.part(0);
        x.join(0, 0, 0, 1);
        Due.is("32: p is q, unlike", x.stands(), 0);
        x.put(0, 0, 7);
        Due.is("32: p is q, like", x.stands(), 1);
    }

    private static void joinMissing() {
        CleaningBench x = Due.longs(2);
        Due.row(x, 0, 1, 0);
        Due.row(x, 0, 1);
        x.part(0);
        x.join(0, 1, 0, 1);
        Due.is("32: a missing one is like none", x.stands(), 0);
        x.ask();
        x.part(0);
        x.part(0);
        x.join(0, 0, 1, 1);
        Due.is("32: nor like a 0", x.stands(), 0);
        x.ask();
        x.part(0);
        x.part(0);
        x.join(0, 0, 1, 0);
        Due.is("32: one row for both parts", x.stands(), 1);
    }

    private static void threeParts() {
        CleaningBench x = Due.longs(2);
        for (int r = 0; r < 12; r++) {
            Due.row(x, 0, 1, r, r + 1);
        }
        for (int p = 0; p < 3; p++) {
            x.part(0);
        }
        x.join(0, 1, 1, 0);
        x.join(1, 1, 2, 0);
        Due.is("32: a chain of three", x.stands(), 1);
        x.tell(2, 0, 11);
        Due.is("32: the last three", x.stands(), 1);
        x.keep(10, false);
        Due.is("32: the middle one is dropped", x.stands(), 0);
        x.tell(2, 0, 2);
        Due.is("32: the first three", x.stands(), 1);
        x.tell(0, 0, 1);
        Due.is("32: no such three", x.stands(), 0);
    }

    private static void oftenAndSure() {
        CleaningBench x = Due.longs(2);
        Due.is("33: no parts, no rows", x.often(), 1);
        Due.is("34: no parts, no rows", x.sure(), 2);
        Due.row(x, 0, 1, 1, 5);
        Due.row(x, 0, 1, 1, 6);
        Due.row(x, 0, 1, 1, 7);
        Due.row(x, 0, 1, 2, 7);
        x.law(ALIKE, 0, 0, 1, 0, 0);
        Due.is("33: no parts", x.often(), 3);
        x.part(0);
        x.tell(0, 1, 5);
        Due.is("33: in one", x.often(), 1);
        Due.is("34: possible", x.sure(), 1);
        x.tell(0, 1, 7);
        Due.is("33: in all", x.often(), 3);
        Due.is("34: sure", x.sure(), 2);
        x.part(0);
        x.tell(1, 0, 1);
        Due.is("33: by two rows", x.often(), 3);
        x.join(0, 0, 1, 0);
        Due.is("33: by one row", x.often(), 1);
        x.tell(1, 1, 6);
        Due.is("32: it stands in the kept ones", x.stands(), 1);
        Due.is("33: in none", x.often(), 0);
        Due.is("34: in none", x.sure(), 0);
        x.keep(2, false);
        x.ask();
        x.part(0);
        x.tell(0, 0, 2);
        Due.is("33: of two", x.often(), 2);
        x.tell(0, 0, 1);
        x.tell(0, 1, 7);
        Due.is("33: a dropped one is not left", x.often(), 0);
    }

    private static void against() {
        CleaningBench x = Due.longs(2);
        Due.is("35: none", x.against(), CleaningBench.NONE);
        Due.row(x, 0, 1, 1, 5);
        Due.row(x, 0, 1, 1, 6);
        Due.row(x, 0, 1, 1, 7);
        x.law(ALIKE, 0, 0, 1, 0, 0);
        x.part(0);
        Due.is("35: it stands in all", x.against(), CleaningBench.NONE);
        x.tell(0, 1, 7);
        Due.is("35: not in the second", x.against(), 0b101);
        x.tell(0, 1, 5);
        Due.is("35: not in the first", x.against(), 0b011);
        x.force(0, false);
        x.tell(0, 1, 6);
        Due.is("35: it stands in the only one", x.against(), CleaningBench.NONE);
        x.law(SPAN, 0, 0, 0, 2, 2);
        Due.is("35: not in the only one", x.against(), 0b111);
        x.keep(0, false);
        x.keep(1, false);
        x.keep(2, false);
        Due.is("35: not without rows", x.against(), 0);
    }

    private static void count() {
        CleaningBench x = Due.longs(2);
        x.table(3, 1, 0);
        x.row(0, 1);
        x.row(3, 1);
        x.row(3, 1);
        x.keep(1, false);
        x.law(SPAN, 0, 0, 0, 0, 0);
        x.part(0);
        x.part(0);
        x.join(0, 0, 1, 1);
        x.join(0, 0, 1, 1);
        x.join(0, 0, 1, 1);
        x.row(1, 1);
        Due.is("36: what below", x.count(-1), CleaningBench.BAD);
        Due.is("36: what above", x.count(7), CleaningBench.BAD);
        int[] due = {3, 1, 2, 3, 1, 2, 2};
        for (int what = 0; what < due.length; what++) {
            Due.is("36: count(" + what + ")", x.count(what), due[what]);
        }
        x.table(-1, 1, 1);
        x.table(1, -1, 1);
        x.column(0, 0, 0);
        x.most(0);
        Due.is("36: PLACE, SIZE, CAST, CAST, NULL", x.count(4), 5);
    }
}
