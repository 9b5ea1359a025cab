import java.math.BigInteger;
import java.util.ArrayList;
import java.util.List;

/**
 * The document's words once more, by trying every set of ROWS, with none of CleaningBench's short
 * ways. It is written to be compared with, not to be quick.
 */
final class SlowBench {
    private static final int UNKNOWN = -1, BAD = -2, STATE = -3, FULL = -4, NONE = -9;
    private static final int NULL = -11, PLACE = -12, CAST = -13, SIZE = -14;

    private record Rule(int kind, int t, int a, int b, int u, long c, long d) {
    }

    private record Link(int p, int c, int q, int d) {
    }

    private final String[] lanes = new String[4];
    private final List<Integer> tableOf = new ArrayList<>();
    private final List<Integer> trustOf = new ArrayList<>();
    private final List<Boolean> kept = new ArrayList<>();
    private final List<Long[]> cells = new ArrayList<>();
    private final List<Rule> rules = new ArrayList<>();
    private final List<Boolean> inForce = new ArrayList<>();
    private final List<Integer> parts = new ArrayList<>();
    private final List<Long[]> tells = new ArrayList<>();
    private final List<Link> links = new ArrayList<>();
    private int findings;

    private int find(int finding) {
        findings++;
        return finding;
    }

    private int place(int t) {
        return t < 0 || t > 3 ? find(PLACE) : lanes[t] == null ? find(NULL) : 0;
    }

    private int place(int t, int column) {
        return column < 0 || column >= lanes[t].length() ? find(PLACE) : 0;
    }

    private static int one(boolean is) {
        return is ? 1 : 0;
    }

    int table(int t, int columns, int digits) {
        if (t < 0 || t > 3) {
            return find(PLACE);
        }
        if (columns < 0) {
            return find(SIZE);
        }
        String text = Integer.toString(digits);
        if (columns == 0 || columns > 6 || digits < 0 || text.length() > columns || !text.matches("[0-5]+")) {
            return BAD;
        }
        if (lanes[t] != null) {
            return STATE;
        }
        StringBuilder all = new StringBuilder(text).reverse();
        while (all.length() < columns) {
            all.append('0');
        }
        lanes[t] = all.toString();
        return columns;
    }

    int row(int t, int trust) {
        int fault = place(t);
        if (fault != 0) {
            return fault;
        }
        if (trust < 1 || trust > 100) {
            return BAD;
        }
        if (tableOf.size() == 12) {
            return FULL;
        }
        tableOf.add(t);
        trustOf.add(trust);
        kept.add(true);
        cells.add(new Long[lanes[t].length()]);
        return tableOf.size() - 1;
    }

    private boolean noRow(int row) {
        return row < 0 || row >= tableOf.size();
    }

    int put(int row, int column, long v) {
        if (noRow(row)) {
            return UNKNOWN;
        }
        if (place(tableOf.get(row), column) != 0) {
            return PLACE;
        }
        BigInteger big = BigInteger.valueOf(v);
        cells.get(row)[column] = switch (lanes[tableOf.get(row)].charAt(column)) {
            case '0' -> (long) big.byteValue();
            case '1' -> (long) big.shortValue();
            case '2' -> big.mod(BigInteger.valueOf(65536)).longValue();
            case '3' -> (long) big.intValue();
            case '4' -> v;
            default -> (long) big.doubleValue();
        };
        return 1;
    }

    int miss(int row, int column) {
        int had = has(row, column);
        if (had >= 0) {
            cells.get(row)[column] = null;
        }
        return had < 0 ? had : 1 - had;
    }

    int has(int row, int column) {
        if (noRow(row)) {
            return UNKNOWN;
        }
        int fault = place(tableOf.get(row), column);
        return fault != 0 ? fault : one(cells.get(row)[column] != null);
    }

    long cell(int row, int column) {
        int has = has(row, column);
        return has < 1 ? has : cells.get(row)[column];
    }

    int column(int t, int column, int lane) {
        int fault = place(t);
        if (fault != 0) {
            return fault;
        }
        if (lane < 0 || lane > 5) {
            return BAD;
        }
        fault = place(t, column);
        if (fault != 0) {
            return fault;
        }
        if (lanes[t].charAt(column) - '0' != lane) {
            return find(CAST);
        }
        int many = 0;
        for (int of : tableOf) {
            many += one(of == t);
        }
        return many;
    }

    int trust(int row, int trust) {
        return noRow(row) ? UNKNOWN : trust < 1 || trust > 100 ? BAD : trustOf.set(row, trust);
    }

    int keep(int row, boolean is) {
        return noRow(row) ? UNKNOWN : one(kept.set(row, is));
    }

    int about(int row, int what) {
        if (noRow(row)) {
            return UNKNOWN;
        }
        return what == 0 ? tableOf.get(row) : what == 1 ? trustOf.get(row) : what == 2 ? one(kept.get(row)) : BAD;
    }

    // ---- laws

    int law(int kind, int t, int a, int b, long c, long d) {
        if (kind < 0 || kind > 4 || kind == 4 && c < 0) {
            return BAD;
        }
        if (rules.size() == 10) {
            return FULL;
        }
        int fault = place(t);
        if (fault == 0) {
            fault = place(t, a);
        }
        if (fault == 0 && kind % 2 == 0) {
            fault = place(t, b);
        }
        return fault != 0 ? fault : addRule(new Rule(kind, t, a, b, t, c, d));
    }

    int among(int t, int c, int u, int d) {
        if (rules.size() == 10) {
            return FULL;
        }
        int fault = place(t);
        if (fault == 0) {
            fault = place(t, c);
        }
        if (fault == 0) {
            fault = place(u);
        }
        if (fault == 0) {
            fault = place(u, d);
        }
        return fault != 0 ? fault : addRule(new Rule(5, t, c, d, u, 0, 0));
    }

    private int addRule(Rule rule) {
        rules.add(rule);
        inForce.add(true);
        return rules.size() - 1;
    }

    private boolean noLaw(int law) {
        return law < 0 || law >= rules.size();
    }

    int force(int law, boolean is) {
        return noLaw(law) ? UNKNOWN : one(inForce.set(law, is));
    }

    long most(int law) {
        return noLaw(law) ? UNKNOWN : rules.get(law).kind() != 4 ? find(CAST) : rules.get(law).c();
    }

    private int keptRows() {
        int set = 0;
        for (int r = 0; r < kept.size(); r++) {
            set |= one(kept.get(r)) << r;
        }
        return set;
    }

    /** The ROWS of a set that are of a TABLE. */
    private List<Integer> rowsOf(int set, int t) {
        List<Integer> all = new ArrayList<>();
        for (int r = 0; r < tableOf.size(); r++) {
            if ((set & 1 << r) != 0 && tableOf.get(r) == t) {
                all.add(r);
            }
        }
        return all;
    }

    private Long at(int row, int column) {
        return cells.get(row)[column];
    }

    private boolean like(Long one, Long two) {
        return one != null && two != null && one.longValue() == two.longValue();
    }

    private boolean breaksRule(Rule rule, int set) {
        List<Integer> all = rowsOf(set, rule.t());
        for (int one : all) {
            Long v = at(one, rule.a());
            boolean broken = switch (rule.kind()) {
                case 1 -> v != null && !(v >= rule.c() && v <= rule.d());
                case 3 -> v == null;
                case 4 -> v != null && overflows(rule, all, v);
                case 5 -> v != null && !helped(rule, v, set);
                default -> breaksWithAnother(rule, one, all);
            };
            if (broken) {
                return true;
            }
        }
        return false;
    }

    private boolean breaksWithAnother(Rule rule, int one, List<Integer> all) {
        for (int two : all) {
            Long v = at(one, rule.b());
            Long w = at(two, rule.b());
            if (one != two && v != null && w != null && like(at(one, rule.a()), at(two, rule.a()))) {
                BigInteger apart = BigInteger.valueOf(v).subtract(BigInteger.valueOf(w)).abs();
                if (rule.kind() == 0 ? apart.signum() != 0 : apart.compareTo(BigInteger.valueOf(rule.c())) < 0) {
                    return true;
                }
            }
        }
        return false;
    }

    private boolean overflows(Rule rule, List<Integer> all, long group) {
        BigInteger sum = BigInteger.ZERO;
        for (int r : all) {
            Long v = at(r, rule.b());
            if (like(at(r, rule.a()), group) && v != null && v > 0) {
                sum = sum.add(BigInteger.valueOf(v));
            }
        }
        return sum.compareTo(BigInteger.valueOf(rule.c())) > 0;
    }

    private boolean helped(Rule rule, long v, int set) {
        for (int r : rowsOf(set, rule.u())) {
            if (like(at(r, rule.b()), v)) {
                return true;
            }
        }
        return false;
    }

    private List<Integer> allQuarrels(Rule rule) {
        List<Integer> all = new ArrayList<>();
        int set = keptRows();
        for (int s = 1; s <= set; s++) {
            if ((s & ~set) == 0 && (rule.kind() == 5 ? isAlone(rule, s, set) : breaksRule(rule, s) && isLeast(rule, s))) {
                all.add(s);
            }
        }
        return all;
    }

    private boolean isAlone(Rule rule, int s, int set) {
        if (Integer.bitCount(s) != 1 || rowsOf(s, rule.t()).isEmpty()) {
            return false;
        }
        Long v = at(rowsOf(s, rule.t()).get(0), rule.a());
        return v != null && !helped(rule, v, set);
    }

    private boolean isLeast(Rule rule, int s) {
        for (int bit = 1; bit <= s; bit <<= 1) {
            if ((s & bit) != 0 && breaksRule(rule, s ^ bit)) {
                return false;
            }
        }
        return true;
    }

    int quarrels(int law) {
        return noLaw(law) ? UNKNOWN : allQuarrels(rules.get(law)).size();
    }

    int quarrel(int law, int i) {
        return noLaw(law) ? UNKNOWN : item(allQuarrels(rules.get(law)), i);
    }

    private static int item(List<Integer> all, int i) {
        return i < 0 || i >= all.size() ? NONE : all.get(i);
    }

    private int firstBroken(int set) {
        for (int l = 0; l < rules.size(); l++) {
            if (inForce.get(l) && breaksRule(rules.get(l), set)) {
                return l;
            }
        }
        return NONE;
    }

    int clean() {
        return one(firstBroken(keptRows()) == NONE);
    }

    int breaks(int rows) {
        return (rows & ~keptRows()) != 0 ? BAD : firstBroken(rows);
    }

    // ---- mendings

    private List<Integer> allMendings() {
        List<Integer> least = new ArrayList<>();
        int set = keptRows();
        for (int m = 0; m <= set; m++) {
            if ((m & ~set) == 0 && !hasPart(least, m) && firstBroken(set & ~m) == NONE) {
                least.add(m);
            }
        }
        return least;
    }

    private static boolean hasPart(List<Integer> least, int m) {
        for (int other : least) {
            if ((other & ~m) == 0) {
                return true;
            }
        }
        return false;
    }

    int mends() {
        return allMendings().size();
    }

    int mending(int i) {
        return item(allMendings(), i);
    }

    private int priceOf(int set) {
        int all = 0;
        for (int r = 0; r < trustOf.size(); r++) {
            all += (set >> r & 1) * trustOf.get(r);
        }
        return all;
    }

    int price() {
        return priceOf(best());
    }

    int best() {
        int least = Integer.MAX_VALUE;
        for (int m : allMendings()) {
            least = Math.min(least, priceOf(m));
        }
        for (int m : allMendings()) {
            if (priceOf(m) == least) {
                return m;
            }
        }
        throw new IllegalStateException("there is always a mending");
    }

    int blame(int row) {
        if (noRow(row)) {
            return UNKNOWN;
        }
        int times = 0;
        for (int m : allMendings()) {
            times += m >> row & 1;
        }
        return times;
    }

    long sum(int t, int column, boolean greatest) {
        int fault = place(t);
        if (fault == 0) {
            fault = place(t, column);
        }
        if (fault != 0) {
            return fault;
        }
        List<Long> sums = new ArrayList<>();
        for (int m : allMendings()) {
            BigInteger all = BigInteger.ZERO;
            for (int r : rowsOf(keptRows() & ~m, t)) {
                all = all.add(BigInteger.valueOf(at(r, column) == null ? 0 : at(r, column)));
            }
            sums.add(all.longValue());
        }
        sums.sort(null);
        return sums.get(greatest ? sums.size() - 1 : 0);
    }

    int mend() {
        int best = best();
        for (int r = 0; r < kept.size(); r++) {
            if ((best >> r & 1) != 0) {
                kept.set(r, false);
            }
        }
        return Integer.bitCount(best);
    }

    int settle(int law) {
        if (noLaw(law)) {
            return UNKNOWN;
        }
        Rule rule = rules.get(law);
        if (rule.kind() != 0) {
            return find(CAST);
        }
        if (rule.a() == rule.b()) {
            return STATE;
        }
        List<Integer> all = rowsOf(keptRows(), rule.t());
        all.removeIf(r -> at(r, rule.a()) == null || at(r, rule.b()) == null);
        List<Long> become = new ArrayList<>();
        for (int r : all) {
            become.add(mostTrusted(rule, at(r, rule.a()), all));
        }
        int changed = 0;
        for (int i = 0; i < all.size(); i++) {
            changed += one(!like(at(all.get(i), rule.b()), become.get(i)));
            cells.get(all.get(i))[rule.b()] = become.get(i);
        }
        return changed;
    }

    private Long mostTrusted(Rule rule, Long x, List<Integer> all) {
        java.util.TreeMap<Long, Integer> votes = new java.util.TreeMap<>();
        for (int r : all) {
            if (like(at(r, rule.a()), x)) {
                votes.merge(at(r, rule.b()), trustOf.get(r), Integer::sum);
            }
        }
        Long first = votes.firstKey();
        for (Long y : votes.keySet()) {
            first = votes.get(y) > votes.get(first) ? y : first;
        }
        return first;
    }

    // ---- questions

    int ask() {
        int had = parts.size();
        parts.clear();
        tells.clear();
        links.clear();
        return had;
    }

    int part(int t) {
        int fault = place(t);
        if (fault != 0) {
            return fault;
        }
        if (parts.size() == 3) {
            return FULL;
        }
        parts.add(t);
        tells.add(new Long[lanes[t].length()]);
        return parts.size() - 1;
    }

    private boolean noPart(int part) {
        return part < 0 || part >= parts.size();
    }

    int tell(int part, int column, long v) {
        if (noPart(part)) {
            return UNKNOWN;
        }
        int fault = place(parts.get(part), column);
        if (fault != 0) {
            return fault;
        }
        tells.get(part)[column] = v;
        return 1;
    }

    int join(int p, int c, int q, int d) {
        if (noPart(p) || noPart(q)) {
            return UNKNOWN;
        }
        int fault = place(parts.get(p), c);
        if (fault == 0) {
            fault = place(parts.get(q), d);
        }
        if (fault != 0) {
            return fault;
        }
        if (links.size() == 6) {
            return FULL;
        }
        links.add(new Link(p, c, q, d));
        return links.size();
    }

    private boolean standsIn(int set, List<Integer> chosen) {
        if (chosen.size() == parts.size()) {
            for (Link link : links) {
                if (!like(at(chosen.get(link.p()), link.c()), at(chosen.get(link.q()), link.d()))) {
                    return false;
                }
            }
            return true;
        }
        int p = chosen.size();
        for (int r : rowsOf(set, parts.get(p))) {
            boolean told = true;
            for (int c = 0; c < tells.get(p).length; c++) {
                told &= tells.get(p)[c] == null || like(tells.get(p)[c], at(r, c));
            }
            chosen.add(r);
            boolean stands = told && standsIn(set, chosen);
            chosen.remove(p);
            if (stands) {
                return true;
            }
        }
        return false;
    }

    private boolean standsIn(int set) {
        return standsIn(set, new ArrayList<>());
    }

    int stands() {
        return one(standsIn(keptRows()));
    }

    int often() {
        int times = 0;
        for (int m : allMendings()) {
            times += one(standsIn(keptRows() & ~m));
        }
        return times;
    }

    int sure() {
        int times = often();
        return times == 0 ? 0 : times == mends() ? 2 : 1;
    }

    int against() {
        for (int m : allMendings()) {
            if (!standsIn(keptRows() & ~m)) {
                return m;
            }
        }
        return NONE;
    }

    int count(int what) {
        int tables = 0;
        for (String of : lanes) {
            tables += one(of != null);
        }
        return switch (what) {
            case 0 -> tableOf.size();
            case 1 -> rules.size();
            case 2 -> parts.size();
            case 3 -> links.size();
            case 4 -> findings;
            case 5 -> Integer.bitCount(keptRows());
            case 6 -> tables;
            default -> BAD;
        };
    }
}
