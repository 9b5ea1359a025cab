/**
 * A bench for tables that break their laws. ../shared/DOC.md says what each call answers; words in
 * capitals here are its words. Sets of ROWS are ints: bit k for ROW k.
 */
public final class CleaningBench {
    public static final int UNKNOWN = -1, BAD = -2, STATE = -3, FULL = -4, NONE = -9;
    public static final int NULL = -11, PLACE = -12, CAST = -13, SIZE = -14;

    private static final int FINE = 0;

    private static final int TABLES = 4, COLUMNS = 6, ROWS = 12, LAWS = 10, PARTS = 3, JOINS = 6;
    private static final int SETS = 1 << ROWS;
    private static final int MOST_TRUST = 100;

    private static final int BYTES = 0, SHORTS = 1, CHARS = 2, INTS = 3, LONGS = 4, DOUBLES = 5;
    private static final int ALIKE = 0, SPAN = 1, APART = 2, MUST = 3, SUM = 4, AMONG = 5;

    private final Table[] tables = new Table[TABLES];
    private final Rows rows = new Rows();
    private final Laws laws = new Laws(rows);
    private final Mendings mendings = new Mendings(rows, laws);
    private final Question question = new Question(rows);
    private int findings;

    public CleaningBench() {
        for (int t = 0; t < TABLES; t++) {
            tables[t] = new Table();
        }
    }

    // ---- tables, rows

    public int table(int t, int columns, int lanes) {
        if (t < 0 || t >= TABLES) {
            return found(PLACE);
        }
        if (columns < 0) {
            return found(SIZE);
        }
        if (columns == 0 || columns > COLUMNS || !areLanes(columns, lanes)) {
            return BAD;
        }
        if (tables[t].columns != 0) {
            return STATE;
        }
        tables[t].make(columns, lanes);
        return columns;
    }

    public int row(int t, int trust) {
        int fault = faultOfTable(t);
        if (fault != FINE) {
            return fault;
        }
        if (!isTrust(trust)) {
            return BAD;
        }
        if (rows.many >= ROWS) {
            return FULL;
        }
        return rows.add(t, trust);
    }

    public int put(int row, int column, long v) {
        int fault = faultOfCell(row, column);
        if (fault != FINE) {
            return fault;
        }
        Row it = rows.list[row];
        it.numbers[column] = asLane(tables[it.table].lanes[column], v);
        it.there[column] = true;
        return 1;
    }

    public int miss(int row, int column) {
        int fault = faultOfCell(row, column);
        if (fault != FINE) {
            return fault;
        }
        Row it = rows.list[row];
        int was = oneIf(!it.there[column]);
        it.numbers[column] = 0;
        it.there[column] = false;
        return was;
    }

    public int has(int row, int column) {
        int fault = faultOfCell(row, column);
        if (fault != FINE) {
            return fault;
        }
        return oneIf(rows.list[row].there[column]);
    }

    public long cell(int row, int column) {
        int fault = faultOfCell(row, column);
        if (fault != FINE) {
            return fault;
        }
        return rows.list[row].numbers[column];
    }

    public int column(int t, int column, int lane) {
        int fault = faultOfTable(t);
        if (fault != FINE) {
            return fault;
        }
        if (lane < BYTES || lane > DOUBLES) {
            return BAD;
        }
        fault = faultOfColumn(t, column);
        if (fault != FINE) {
            return fault;
        }
        if (tables[t].lanes[column] != lane) {
            return found(CAST);
        }
        return rows.manyOf(t);
    }

    public int trust(int row, int trust) {
        if (!isRow(row)) {
            return UNKNOWN;
        }
        if (!isTrust(trust)) {
            return BAD;
        }
        int had = rows.list[row].trust;
        rows.list[row].trust = trust;
        return had;
    }

    public int keep(int row, boolean is) {
        if (!isRow(row)) {
            return UNKNOWN;
        }
        int was = oneIf(rows.list[row].kept);
        rows.list[row].kept = is;
        return was;
    }

    public int about(int row, int what) {
        if (!isRow(row)) {
            return UNKNOWN;
        }
        Row it = rows.list[row];
        switch (what) {
            case 0: return it.table;
            case 1: return it.trust;
            case 2: return oneIf(it.kept);
            default: return BAD;
        }
    }

    // ---- laws

    public int law(int kind, int t, int a, int b, long c, long d) {
        if (kind < ALIKE || kind > SUM || (kind == SUM && c < 0)) {
            return BAD;
        }
        if (laws.many >= LAWS) {
            return FULL;
        }
        int fault = faultOfColumnIn(t, a);
        if (fault == FINE && looksAtTwo(kind)) {
            fault = faultOfColumn(t, b);
        }
        if (fault != FINE) {
            return fault;
        }
        Law it = laws.add(kind, t);
        it.first = a;
        it.second = looksAtTwo(kind) ? b : a;
        it.c = c;
        it.d = d;
        return laws.many - 1;
    }

    public int among(int t, int c, int u, int d) {
        if (laws.many >= LAWS) {
            return FULL;
        }
        int fault = faultOfColumnIn(t, c);
        if (fault == FINE) {
            fault = faultOfColumnIn(u, d);
        }
        if (fault != FINE) {
            return fault;
        }
        Law it = laws.add(AMONG, t);
        it.first = c;
        it.other = u;
        it.second = d;
        return laws.many - 1;
    }

    public int force(int law, boolean is) {
        if (!isLaw(law)) {
            return UNKNOWN;
        }
        int was = oneIf(laws.list[law].inForce);
        laws.list[law].inForce = is;
        return was;
    }

    public long most(int law) {
        if (!isLaw(law)) {
            return UNKNOWN;
        }
        if (laws.list[law].kind != SUM) {
            return found(CAST);
        }
        return laws.list[law].c;
    }

    public int quarrels(int law) {
        if (!isLaw(law)) {
            return UNKNOWN;
        }
        laws.find(laws.list[law], rows.kept());
        return laws.manyFound;
    }

    public int quarrel(int law, int i) {
        if (!isLaw(law)) {
            return UNKNOWN;
        }
        laws.find(laws.list[law], rows.kept());
        if (i < 0 || i >= laws.manyFound) {
            return NONE;
        }
        return laws.found[i];
    }

    public int clean() {
        return oneIf(laws.leastBroken(rows.kept()) == NONE);
    }

    public int breaks(int rows) {
        if ((rows & ~this.rows.kept()) != 0) {
            return BAD;
        }
        return laws.leastBroken(rows);
    }

    // ---- mendings

    public int mends() {
        mendings.find();
        return mendings.many;
    }

    public int mending(int i) {
        mendings.find();
        if (i < 0 || i >= mendings.many) {
            return NONE;
        }
        return mendings.least[i];
    }

    public int price() {
        mendings.find();
        return rows.trustOf(mendings.cheapest());
    }

    public int best() {
        mendings.find();
        return mendings.cheapest();
    }

    public int blame(int row) {
        if (!isRow(row)) {
            return UNKNOWN;
        }
        mendings.find();
        int times = 0;
        for (int i = 0; i < mendings.many; i++) {
            times += oneIf(isIn(mendings.least[i], row));
        }
        return times;
    }

    public long sum(int t, int column, boolean greatest) {
        int fault = faultOfColumnIn(t, column);
        if (fault != FINE) {
            return fault;
        }
        mendings.find();
        long told = 0;
        for (int i = 0; i < mendings.many; i++) {
            long next = rows.added(t, column, mendings.leftBy(i));
            if (i == 0 || (greatest ? next > told : next < told)) {
                told = next;
            }
        }
        return told;
    }

    public int mend() {
        mendings.find();
        int set = mendings.cheapest();
        rows.drop(set);
        return Integer.bitCount(set);
    }

    public int settle(int law) {
        if (!isLaw(law)) {
            return UNKNOWN;
        }
        Law it = laws.list[law];
        if (it.kind != ALIKE) {
            return found(CAST);
        }
        if (it.first == it.second) {
            return STATE;
        }
        return rows.settleAll(it.table, it.first, it.second);
    }

    // ---- questions

    public int ask() {
        int had = question.manyParts;
        question.clear();
        return had;
    }

    public int part(int t) {
        int fault = faultOfTable(t);
        if (fault != FINE) {
            return fault;
        }
        if (question.manyParts >= PARTS) {
            return FULL;
        }
        return question.addPart(t);
    }

    public int tell(int part, int column, long v) {
        int fault = faultOfPart(part, column);
        if (fault != FINE) {
            return fault;
        }
        question.parts[part].told[column] = true;
        question.parts[part].numbers[column] = v;
        return 1;
    }

    public int join(int p, int c, int q, int d) {
        if (!isPart(p) || !isPart(q)) {
            return UNKNOWN;
        }
        int fault = faultOfPart(p, c);
        if (fault == FINE) {
            fault = faultOfPart(q, d);
        }
        if (fault != FINE) {
            return fault;
        }
        if (question.manyJoins >= JOINS) {
            return FULL;
        }
        return question.addJoin(p, c, q, d);
    }

    public int stands() {
        return oneIf(question.standsIn(rows.kept()));
    }

    public int often() {
        mendings.find();
        return timesStanding();
    }

    public int sure() {
        mendings.find();
        int times = timesStanding();
        if (times == 0) {
            return 0;
        }
        return times == mendings.many ? 2 : 1;
    }

    public int against() {
        mendings.find();
        question.findStanding(mendings.kept);
        for (int i = 0; i < mendings.many; i++) {
            if (!question.standing[mendings.leftBy(i)]) {
                return mendings.least[i];
            }
        }
        return NONE;
    }

    public int count(int what) {
        switch (what) {
            case 0: return rows.many;
            case 1: return laws.many;
            case 2: return question.manyParts;
            case 3: return question.manyJoins;
            case 4: return findings;
            case 5: return Integer.bitCount(rows.kept());
            case 6: return manyTables();
            default: return BAD;
        }
    }

    // ---- what the calls look at before they begin

    private int found(int finding) {
        findings++;
        return finding;
    }

    private int faultOfTable(int t) {
        if (t < 0 || t >= TABLES) {
            return found(PLACE);
        }
        return tables[t].columns == 0 ? found(NULL) : FINE;
    }

    private int faultOfColumn(int t, int column) {
        return column < 0 || column >= tables[t].columns ? found(PLACE) : FINE;
    }

    private int faultOfColumnIn(int t, int column) {
        int fault = faultOfTable(t);
        return fault != FINE ? fault : faultOfColumn(t, column);
    }

    private int faultOfCell(int row, int column) {
        return isRow(row) ? faultOfColumn(rows.list[row].table, column) : UNKNOWN;
    }

    private int faultOfPart(int part, int column) {
        return isPart(part) ? faultOfColumn(question.parts[part].table, column) : UNKNOWN;
    }

    private boolean isRow(int row) {
        return row >= 0 && row < rows.many;
    }

    private boolean isLaw(int law) {
        return law >= 0 && law < laws.many;
    }

    private boolean isPart(int part) {
        return part >= 0 && part < question.manyParts;
    }

    private static boolean isTrust(int trust) {
        return trust >= 1 && trust <= MOST_TRUST;
    }

    private static boolean areLanes(int columns, int lanes) {
        int rest = lanes;
        for (int c = 0; c < columns; c++) {
            if (rest < 0 || rest % 10 > DOUBLES) {
                return false;
            }
            rest /= 10;
        }
        return rest == 0;
    }

    private static boolean looksAtTwo(int kind) {
        return kind == ALIKE || kind == APART || kind == SUM;
    }

    // ---- small helps

    private int manyTables() {
        int many = 0;
        for (int t = 0; t < TABLES; t++) {
            many += oneIf(tables[t].columns != 0);
        }
        return many;
    }

    private int timesStanding() {
        question.findStanding(mendings.kept);
        int times = 0;
        for (int i = 0; i < mendings.many; i++) {
            times += oneIf(question.standing[mendings.leftBy(i)]);
        }
        return times;
    }

    private static int oneIf(boolean is) {
        return is ? 1 : 0;
    }

    private static boolean isIn(int set, int row) {
        return (set >> row & 1) != 0;
    }

    private static long asLane(int lane, long v) {
        switch (lane) {
            case BYTES: return (byte) v;
            case SHORTS: return (short) v;
            case CHARS: return (char) v;
            case INTS: return (int) v;
            case LONGS: return v;
            default: return (long) (double) v;
        }
    }

    /** Marks each set that has a marked one as a part; sets are of the first so many ROWS. */
    private static void markWholes(boolean[] marks, int many) {
        int sets = 1 << many;
        for (int row = 0; row < many; row++) {
            for (int set = 0; set < sets; set++) {
                if (marks[set]) {
                    marks[set | 1 << row] = true;
                }
            }
        }
    }

    private static void unmark(boolean[] marks, int many) {
        int sets = 1 << many;
        for (int set = 0; set < sets; set++) {
            marks[set] = false;
        }
    }

    /** Without COLUMNS there is no such TABLE. */
    private static final class Table {
        final int[] lanes = new int[COLUMNS];
        int columns;

        void make(int wanted, int digits) {
            columns = wanted;
            int rest = digits;
            for (int c = 0; c < wanted; c++) {
                lanes[c] = rest % 10;
                rest /= 10;
            }
        }
    }

    /** A number here is what the CELL tells: lanes only matter when it comes in; 0 if MISSING. */
    private static final class Row {
        final long[] numbers = new long[COLUMNS];
        final boolean[] there = new boolean[COLUMNS];
        int table;
        int trust;
        boolean kept;
    }

    private static final class Rows {
        final Row[] list = new Row[ROWS];
        int many;

        Rows() {
            for (int r = 0; r < ROWS; r++) {
                list[r] = new Row();
            }
        }

        int add(int t, int trusted) {
            list[many].table = t;
            list[many].trust = trusted;
            list[many].kept = true;
            many++;
            return many - 1;
        }

        int kept() {
            int set = 0;
            for (int r = 0; r < many; r++) {
                if (list[r].kept) {
                    set |= 1 << r;
                }
            }
            return set;
        }

        void drop(int set) {
            for (int r = 0; r < many; r++) {
                if (isIn(set, r)) {
                    list[r].kept = false;
                }
            }
        }

        int manyOf(int t) {
            int times = 0;
            for (int r = 0; r < many; r++) {
                times += oneIf(list[r].table == t);
            }
            return times;
        }

        int trustOf(int set) {
            int all = 0;
            for (int r = 0; r < many; r++) {
                if (isIn(set, r)) {
                    all += list[r].trust;
                }
            }
            return all;
        }

        /** Those of a set that are of TABLE t and have a CELL in the COLUMN. */
        int withCell(int t, int c, int set) {
            int those = 0;
            for (int r = 0; r < many; r++) {
                if (isIn(set, r) && list[r].table == t && list[r].there[c]) {
                    those |= 1 << r;
                }
            }
            return those;
        }

        /** Those of a set that are of TABLE t and have this number in the COLUMN. */
        int withNumber(int t, int c, long v, int set) {
            int those = 0;
            for (int r = 0; r < many; r++) {
                Row it = list[r];
                if (isIn(set, r) && it.table == t && it.there[c] && it.numbers[c] == v) {
                    those |= 1 << r;
                }
            }
            return those;
        }

        int aboveZero(int c, int set) {
            int those = 0;
            for (int r = 0; r < many; r++) {
                if (isIn(set, r) && list[r].numbers[c] > 0) {
                    those |= 1 << r;
                }
            }
            return those;
        }

        long added(int t, int c, int set) {
            int those = withCell(t, c, set);
            long all = 0;
            for (int r = 0; r < many; r++) {
                if (isIn(those, r)) {
                    all += list[r].numbers[c];
                }
            }
            return all;
        }

        // A group is come to once for each of its ROWS: after the first time it changes no more.
        int settleAll(int t, int x, int y) {
            int set = kept();
            int those = withCell(t, x, set) & withCell(t, y, set);
            int changed = 0;
            for (int r = 0; r < many; r++) {
                if (isIn(those, r)) {
                    changed += settleGroup(t, y, withNumber(t, x, list[r].numbers[x], those));
                }
            }
            return changed;
        }

        int settleGroup(int t, int y, int group) {
            long number = mostTrusted(t, y, group);
            int changed = 0;
            for (int r = 0; r < many; r++) {
                if (isIn(group, r) && list[r].numbers[y] != number) {
                    list[r].numbers[y] = number;
                    changed++;
                }
            }
            return changed;
        }

        long mostTrusted(int t, int y, int group) {
            long number = 0;
            int trusted = 0;
            for (int r = 0; r < many; r++) {
                if (isIn(group, r)) {
                    long next = list[r].numbers[y];
                    int all = trustOf(withNumber(t, y, next, group));
                    if (all > trusted || (all == trusted && next < number)) {
                        number = next;
                        trusted = all;
                    }
                }
            }
            return number;
        }
    }

    /** COLUMNS first, second: ALIKE x, y; APART, SUM g, c; AMONG c, d (of TABLE other); else c alone. */
    private static final class Law {
        int kind;
        int table;
        int first;
        int second;
        int other;
        long c;
        long d;
        boolean inForce;
    }

    /** The LAWS, and the QUARRELS that were found last, the least first. */
    private static final class Laws {
        final Rows rows;
        final Law[] list = new Law[LAWS];
        int many;
        final int[] found = new int[SETS];
        int manyFound;

        Laws(Rows rows) {
            this.rows = rows;
            for (int l = 0; l < LAWS; l++) {
                list[l] = new Law();
            }
        }

        Law add(int kind, int t) {
            Law it = list[many];
            it.kind = kind;
            it.table = t;
            it.inForce = true;
            many++;
            return it;
        }

        int leastBroken(int set) {
            for (int l = 0; l < many; l++) {
                if (list[l].inForce) {
                    find(list[l], set);
                    if (manyFound > 0) {
                        return l;
                    }
                }
            }
            return NONE;
        }

        /** Finds the QUARRELS of a LAW as if the ROWS of the set alone were KEPT. */
        void find(Law it, int set) {
            manyFound = 0;
            switch (it.kind) {
                case ALIKE:
                case APART:
                    findPairs(it, set);
                    break;
                case SUM:
                    findSums(it, set);
                    break;
                case AMONG:
                    findUnhelped(it, set);
                    break;
                default:
                    findSingles(it, set);
                    break;
            }
        }

        // None is added twice, so there is a place for each set of ROWS.
        void addFound(int set) {
            if (manyFound < found.length) {
                found[manyFound] = set;
                manyFound++;
            }
        }

        void findSingles(Law it, int set) {
            for (int r = 0; r < rows.many; r++) {
                if (isIn(set, r) && rows.list[r].table == it.table && quarrelsAlone(it, rows.list[r])) {
                    addFound(1 << r);
                }
            }
        }

        boolean quarrelsAlone(Law it, Row row) {
            if (it.kind == MUST) {
                return !row.there[it.first];
            }
            long v = row.numbers[it.first];
            return row.there[it.first] && (v < it.c || v > it.d);
        }

        void findUnhelped(Law it, int set) {
            int those = rows.withCell(it.table, it.first, set);
            for (int r = 0; r < rows.many; r++) {
                if (isIn(those, r)) {
                    long v = rows.list[r].numbers[it.first];
                    if (rows.withNumber(it.other, it.second, v, set) == 0) {
                        addFound(1 << r);
                    }
                }
            }
        }

        void findPairs(Law it, int set) {
            int those = rows.withCell(it.table, it.first, set) & rows.withCell(it.table, it.second, set);
            for (int high = 1; high < rows.many; high++) {
                for (int low = 0; low < high; low++) {
                    if (isIn(those, high) && isIn(those, low) && quarrelTogether(it, rows.list[low], rows.list[high])) {
                        addFound(1 << high | 1 << low);
                    }
                }
            }
        }

        boolean quarrelTogether(Law it, Row one, Row two) {
            if (one.numbers[it.first] != two.numbers[it.first]) {
                return false;
            }
            long v = one.numbers[it.second];
            long w = two.numbers[it.second];
            return it.kind == ALIKE ? v != w : areNearer(v, w, it.c);
        }

        // A distance beyond the longs wraps below 0, and is not less than any long.
        boolean areNearer(long v, long w, long apart) {
            long distance = v > w ? v - w : w - v;
            return distance >= 0 && distance < apart;
        }

        // By the highest ROW, then by the others: so the least set comes first.
        void findSums(Law it, int set) {
            int those = rows.withCell(it.table, it.first, set) & rows.withCell(it.table, it.second, set);
            those = rows.aboveZero(it.second, those);
            for (int high = 0; high < rows.many; high++) {
                if (isIn(those, high)) {
                    long group = rows.list[high].numbers[it.first];
                    int lower = rows.withNumber(it.table, it.first, group, those) & (1 << high) - 1;
                    for (int others = 0; others <= lower; others++) {
                        if ((others & ~lower) == 0 && isLeastSum(it, high, others)) {
                            addFound(1 << high | others);
                        }
                    }
                }
            }
        }

        // Least, if all but the smallest CELL stay within most. What is still free is never below
        // 0, so nothing here leaves the longs.
        boolean isLeastSum(Law it, int high, int others) {
            long free = it.c;
            long smallest = rows.list[high].numbers[it.second];
            for (int r = 0; r < high; r++) {
                if (isIn(others, r)) {
                    long v = rows.list[r].numbers[it.second];
                    long greater = v > smallest ? v : smallest;
                    smallest = v > smallest ? smallest : v;
                    if (greater > free) {
                        return false;
                    }
                    free -= greater;
                }
            }
            return smallest > free;
        }
    }

    /** The LEAST MENDINGS that were found last, the least first, and the ROWS that were KEPT. */
    private static final class Mendings {
        final Rows rows;
        final Laws laws;
        final int[] least = new int[SETS];
        int many;
        int kept;
        /** By the set that is left: whether it breaks a LAW IN FORCE. */
        final boolean[] broken = new boolean[SETS];
        /** By the set that is dropped: whether it or a part of it is a MENDING. */
        final boolean[] covers = new boolean[SETS];

        Mendings(Rows rows, Laws laws) {
            this.rows = rows;
            this.laws = laws;
        }

        void find() {
            kept = rows.kept();
            findBroken();
            many = 0;
            for (int set = 0; set <= kept; set++) {
                if ((set & ~kept) == 0) {
                    boolean more = isMoreThanOne(set);
                    boolean mends = !broken[kept ^ set];
                    covers[set] = more || mends;
                    if (mends && !more && many < least.length) {
                        least[many] = set;
                        many++;
                    }
                }
            }
        }

        boolean isMoreThanOne(int set) {
            for (int r = 0; r < rows.many; r++) {
                if (isIn(set, r) && covers[set ^ 1 << r]) {
                    return true;
                }
            }
            return false;
        }

        // A set with a QUARREL in it breaks the LAW, but for AMONG: there more ROWS can help.
        void findBroken() {
            unmark(broken, rows.many);
            for (int l = 0; l < laws.many; l++) {
                if (laws.list[l].inForce && laws.list[l].kind != AMONG) {
                    laws.find(laws.list[l], kept);
                    for (int i = 0; i < laws.manyFound; i++) {
                        broken[laws.found[i]] = true;
                    }
                }
            }
            markWholes(broken, rows.many);
            for (int l = 0; l < laws.many; l++) {
                if (laws.list[l].inForce && laws.list[l].kind == AMONG) {
                    breakAmong(laws.list[l]);
                }
            }
        }

        void breakAmong(Law it) {
            int those = rows.withCell(it.table, it.first, kept);
            for (int r = 0; r < rows.many; r++) {
                if (isIn(those, r)) {
                    long v = rows.list[r].numbers[it.first];
                    breakWithout(r, rows.withNumber(it.other, it.second, v, kept));
                }
            }
        }

        void breakWithout(int row, int helpers) {
            for (int set = 0; set <= kept; set++) {
                if (isIn(set, row) && (set & helpers) == 0) {
                    broken[set] = true;
                }
            }
        }

        int leftBy(int i) {
            return kept ^ least[i];
        }

        int cheapest() {
            int set = least[0];
            int price = rows.trustOf(set);
            for (int i = 1; i < many; i++) {
                int next = rows.trustOf(least[i]);
                if (next < price) {
                    set = least[i];
                    price = next;
                }
            }
            return set;
        }
    }

    private static final class Part {
        final boolean[] told = new boolean[COLUMNS];
        final long[] numbers = new long[COLUMNS];
        int table;
    }

    private static final class Join {
        int p;
        int c;
        int q;
        int d;
    }

    private static final class Question {
        final Rows rows;
        final Part[] parts = new Part[PARTS];
        int manyParts;
        final Join[] joins = new Join[JOINS];
        int manyJoins;
        /** By PART: the ROWS that have its told numbers; the ROW that is tried. */
        final int[] fitting = new int[PARTS];
        final int[] tried = new int[PARTS];
        /** By set of ROWS: whether THE QUESTION STANDS in it. */
        final boolean[] standing = new boolean[SETS];

        Question(Rows rows) {
            this.rows = rows;
            for (int p = 0; p < PARTS; p++) {
                parts[p] = new Part();
            }
            for (int j = 0; j < JOINS; j++) {
                joins[j] = new Join();
            }
        }

        void clear() {
            manyParts = 0;
            manyJoins = 0;
        }

        int addPart(int t) {
            Part it = parts[manyParts];
            it.table = t;
            for (int c = 0; c < COLUMNS; c++) {
                it.told[c] = false;
            }
            manyParts++;
            return manyParts - 1;
        }

        int addJoin(int p, int c, int q, int d) {
            Join it = joins[manyJoins];
            it.p = p;
            it.c = c;
            it.q = q;
            it.d = d;
            manyJoins++;
            return manyJoins;
        }

        boolean standsIn(int set) {
            findFitting(set);
            int tries = manyTries();
            for (int n = 0; n < tries; n++) {
                if (stood(n)) {
                    return true;
                }
            }
            return false;
        }

        /** Finds for each part of a set of ROWS whether THE QUESTION STANDS in it. */
        void findStanding(int set) {
            unmark(standing, rows.many);
            findFitting(set);
            int tries = manyTries();
            for (int n = 0; n < tries; n++) {
                if (stood(n)) {
                    standing[triedRows()] = true;
                }
            }
            markWholes(standing, rows.many);
        }

        void findFitting(int set) {
            for (int p = 0; p < manyParts; p++) {
                fitting[p] = fittingOf(parts[p], set);
            }
        }

        int fittingOf(Part it, int set) {
            int those = 0;
            for (int r = 0; r < rows.many; r++) {
                if (isIn(set, r) && rows.list[r].table == it.table && hasTold(it, rows.list[r])) {
                    those |= 1 << r;
                }
            }
            return those;
        }

        boolean hasTold(Part it, Row row) {
            for (int c = 0; c < COLUMNS; c++) {
                if (it.told[c] && !(row.there[c] && row.numbers[c] == it.numbers[c])) {
                    return false;
                }
            }
            return true;
        }

        int manyTries() {
            int tries = 1;
            for (int p = 0; p < manyParts; p++) {
                tries *= ROWS;
            }
            return tries;
        }

        // Try n gives each PART a ROW: the digits of n, to the base ROWS.
        boolean stood(int n) {
            int rest = n;
            for (int p = 0; p < manyParts; p++) {
                tried[p] = rest % ROWS;
                rest /= ROWS;
                if (!isIn(fitting[p], tried[p])) {
                    return false;
                }
            }
            for (int j = 0; j < manyJoins; j++) {
                if (!isJoined(joins[j])) {
                    return false;
                }
            }
            return true;
        }

        boolean isJoined(Join it) {
            Row one = rows.list[tried[it.p]];
            Row two = rows.list[tried[it.q]];
            return one.there[it.c] && two.there[it.d] && one.numbers[it.c] == two.numbers[it.d];
        }

        int triedRows() {
            int set = 0;
            for (int p = 0; p < manyParts; p++) {
                set |= 1 << tried[p];
            }
            return set;
        }
    }
}
