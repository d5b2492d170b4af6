import java.util.ArrayList;
import java.util.Arrays;
import java.util.List;
import java.util.TreeSet;
import java.util.function.IntFunction;
import java.util.function.Supplier;
import java.util.regex.Matcher;
import java.util.regex.Pattern;

/**
 * The document once more, by other means: rows are the machine's own arrays and FAULTS are what the machine throws,
 * TEXTS are read by patterns, kinds are classes. ModelTest holds the class against it.
 */
final class Model {
    static final int UNKNOWN = -1, OUTSIDE = -2, STATE = -3, FULL = -4, NONE = -9;
    static final long LOST = Long.MIN_VALUE;

    interface Taught {
        default int lesson(Model m, int number) {
            m.leave(4);
            return number;
        }
    }

    static class Prince implements Taught {
        int father, worth, fond, to = NONE, from = NONE;

        int told(Model m) {
            m.leave(1);
            return worth;
        }

        final int plainTold(Model m) {
            m.leave(1);
            return worth;
        }

        int cost(int away) {
            int v = worth;
            for (int y = 0; y < away; y++) {
                v = v > fond ? v - fond : 0;
            }
            return v;
        }
    }

    static class Heir extends Prince {
        @Override
        int told(Model m) {
            m.leave(2);
            return super.told(m) + 100;
        }

        @Override
        int cost(int away) {
            return super.cost(away) + 2;
        }
    }

    static class Page extends Heir {
        @Override
        int told(Model m) {
            m.leave(3);
            return super.told(m) + plainTold(m);
        }

        @Override
        int cost(int away) {
            return (super.cost(away) - 2) >> 1;
        }

        @Override
        public int lesson(Model m, int number) {
            m.leave(5);
            return 50;
        }
    }

    record Reading(int court, int year, boolean was) {
    }

    private final Object[] sheets = new Object[4];
    private int[][] gains = new int[0][0];
    private List<Prince> sons = new ArrayList<>();
    private final List<Reading> readings = new ArrayList<>();
    private int trace = 0;
    private int fault = 0;

    void leave(int body) {
        trace = trace * 31 + body;
    }

    private int years() {
        return gains.length == 0 ? 0 : gains[0].length;
    }

    private boolean noSon(int s) {
        return s < 0 || s >= sons.size();
    }

    private boolean noCourt(int c) {
        return c < 0 || c >= gains.length;
    }

    private boolean noYear(int y) {
        return y < 0 || y >= years();
    }

    private static boolean noSheet(int k) {
        return k < 0 || k > 3;
    }

    /** What the machine throws, as a FAULT. */
    private long guarded(boolean isLong, Supplier<Long> body) {
        fault = 0;
        try {
            return body.get();
        } catch (NullPointerException e) {
            fault = 1;
        } catch (ClassCastException | ArrayStoreException e) {
            fault = 2;
        } catch (IndexOutOfBoundsException e) {
            fault = 3;
        } catch (NegativeArraySizeException e) {
            fault = 4;
        }
        return isLong ? LOST : -10 - fault;
    }

    private static int length(Object row, int lane) {
        return lane == 0 ? ((byte[]) row).length : lane == 1 ? ((short[]) row).length : ((int[]) row).length;
    }

    private static int at(Object row, int lane, int i) {
        return lane == 0 ? ((byte[]) row)[i] : lane == 1 ? ((short[]) row)[i] : ((int[]) row)[i];
    }

    /** n cells from i on, as the machine would take them: a cast, a length, a new row, a copy. */
    private static int[] taken(Object row, int lane, int i, int n) {
        length(row, lane);
        // No row has more than 60 cells, so a greater n is an INDEX fault of the copy in any case.
        int size = Math.min(n, 61);
        Object fresh = lane == 0 ? new byte[size] : lane == 1 ? new short[size] : new int[size];
        System.arraycopy(row, i, fresh, 0, n);
        int[] cells = new int[n];
        for (int k = 0; k < n; k++) {
            cells[k] = at(fresh, lane, k);
        }
        return cells;
    }

    // ---- 1

    private static final Pattern[] TEXTS = texts();

    private static Pattern[] texts() {
        Pattern[] all = new Pattern[18];
        for (int c = 2; c <= 4; c++) {
            for (int y = 1; y <= 6; y++) {
                all[(c - 2) * 6 + y - 1] = Pattern.compile("x" + c + y + "(/[0-9]{" + y + "}){" + c + "}(,[shp][0-"
                    + (c - 1) + "][0-9][0-3]){1,5}");
            }
        }
        return all;
    }

    private static boolean goesOn(String prefix) {
        for (Pattern p : TEXTS) {
            Matcher m = p.matcher(prefix);
            if (m.matches() || m.hitEnd()) {
                return true;
            }
        }
        return false;
    }

    private static int firstFault(String text) {
        for (int n = 1; n <= text.length(); n++) {
            if (!goesOn(text.substring(0, n))) {
                return n - 1;
            }
        }
        for (Pattern p : TEXTS) {
            if (p.matcher(text).matches()) {
                return -1;
            }
        }
        return text.length();
    }

    int treaty(int sheet, int lane, int i, int n) {
        return (int) guarded(false, () -> {
            if (noSheet(sheet)) {
                return (long) UNKNOWN;
            }
            if (lane < 0 || lane > 2) {
                return (long) OUTSIDE;
            }
            StringBuilder b = new StringBuilder();
            for (int code : taken(sheets[sheet], lane, i, n)) {
                b.append(code >= 0 && code < 128 ? (char) code : '?');
            }
            String text = b.toString();
            int place = firstFault(text);
            if (place >= 0) {
                return -100L - place;
            }
            readings.clear();
            take(text);
            return (long) sons.size();
        });
    }

    private void take(String text) {
        String[] parts = text.split(",");
        String[] rows = parts[0].split("/");
        gains = new int[rows.length - 1][];
        for (int c = 0; c < gains.length; c++) {
            gains[c] = rows[c + 1].chars().map(d -> d - '0').toArray();
        }
        sons = new ArrayList<>();
        for (int s = 1; s < parts.length; s++) {
            Prince p = ofKind("shp".indexOf(parts[s].charAt(0)));
            p.father = parts[s].charAt(1) - '0';
            p.worth = parts[s].charAt(2) - '0';
            p.fond = parts[s].charAt(3) - '0';
            sons.add(p);
        }
    }

    private static Prince ofKind(int kind) {
        return kind == 0 ? new Prince() : kind == 1 ? new Heir() : new Page();
    }

    private static int kindOf(Prince p) {
        return p instanceof Page ? 2 : p instanceof Heir ? 1 : 0;
    }

    private static Prince like(Prince p, int kind, int worth, int fond) {
        Prince q = ofKind(kind);
        q.father = p.father;
        q.worth = worth;
        q.fond = fond;
        q.to = p.to;
        q.from = p.from;
        return q;
    }

    int ofSon(int s, int what) {
        if (noSon(s)) {
            return UNKNOWN;
        }
        if (what < 0 || what > 5) {
            return OUTSIDE;
        }
        Prince p = sons.get(s);
        return new int[] {kindOf(p), p.father, p.worth, p.fond, p.to, p.from}[what];
    }

    int gain(int c, int year) {
        return noCourt(c) ? UNKNOWN : noYear(year) ? OUTSIDE : gains[c][year];
    }

    int tempt(int c, int year, int v) {
        if (noCourt(c)) {
            return UNKNOWN;
        }
        if (noYear(year) || v < 0 || v > 9) {
            return OUTSIDE;
        }
        int was = gains[c][year];
        gains[c][year] = v;
        return was;
    }

    // ---- 2

    int send(int s, int c, int year) {
        if (noSon(s) || noCourt(c)) {
            return UNKNOWN;
        }
        if (noYear(year)) {
            return OUTSIDE;
        }
        Prince p = sons.get(s);
        if (p.father == c) {
            return STATE;
        }
        int answer = p.to == NONE || p.to == c && p.from == year ? 1 : 0;
        p.to = c;
        p.from = year;
        return answer;
    }

    int home(int s) {
        if (noSon(s)) {
            return UNKNOWN;
        }
        int answer = sons.get(s).to == NONE ? 0 : 1;
        sons.get(s).to = NONE;
        sons.get(s).from = NONE;
        return answer;
    }

    private static int stakeOf(Prince p, int year) {
        return p.from == NONE || p.from > year ? NONE : p.cost(year - p.from);
    }

    int stake(int s, int year) {
        return noSon(s) ? UNKNOWN : noYear(year) ? OUTSIDE : stakeOf(sons.get(s), year);
    }

    private int stakesOf(List<Prince> all, int c, int year) {
        return all.stream().filter(p -> p.father == c).mapToInt(p -> Math.max(0, stakeOf(p, year))).sum();
    }

    int stakes(int c, int year) {
        return noCourt(c) ? UNKNOWN : noYear(year) ? OUTSIDE : stakesOf(sons, c, year);
    }

    /** Every temptation as 10 times its YEAR and its COURT, least first. */
    private TreeSet<Integer> temptations(List<Prince> all) {
        TreeSet<Integer> set = new TreeSet<>();
        for (int c = 0; c < gains.length; c++) {
            for (int y = 0; y < years(); y++) {
                if (gains[c][y] > stakesOf(all, c, y)) {
                    set.add(10 * y + c);
                }
            }
        }
        return set;
    }

    int tempted(int year) {
        if (sons.isEmpty()) {
            return STATE;
        }
        if (noYear(year)) {
            return OUTSIDE;
        }
        int set = 0;
        for (int t : temptations(sons)) {
            set += t / 10 == year ? 1 << t % 10 : 0;
        }
        return set;
    }

    private int ofBreak(List<Prince> all, int what) {
        TreeSet<Integer> set = temptations(all);
        return set.isEmpty() ? NONE : what == 0 ? set.first() / 10 : set.first() % 10;
    }

    int broken(int what) {
        return what < 0 || what > 1 ? OUTSIDE : sons.isEmpty() ? STATE : ofBreak(sons, what);
    }

    /** The SONS as if each were SENT from a YEAR on; NONE: he is not. */
    private List<Prince> sentFrom(IntFunction<Integer> from) {
        List<Prince> all = new ArrayList<>();
        for (int s = 0; s < sons.size(); s++) {
            Prince p = sons.get(s);
            Prince q = like(p, kindOf(p), p.worth, p.fond);
            q.from = from.apply(s);
            all.add(q);
        }
        return all;
    }

    int plan(int sheet, int lane, int i, int n, int what) {
        return (int) guarded(false, () -> {
            if (noSheet(sheet)) {
                return (long) UNKNOWN;
            }
            if (lane < 0 || lane > 2 || Arrays.binarySearch(new int[] {0, 1, 2, 10, 11, 12, 13}, what) < 0) {
                return (long) OUTSIDE;
            }
            int[] cells = taken(sheets[sheet], lane, i, n);
            if (sons.isEmpty()) {
                return (long) STATE;
            }
            if (n != sons.size() || Arrays.stream(cells).anyMatch(v -> v < 0 || v > years())) {
                return (long) OUTSIDE;
            }
            List<Prince> all = sentFrom(s -> cells[s] == years() ? NONE : cells[s]);
            if (what < 2) {
                return (long) ofBreak(all, what);
            }
            if (what == 2) {
                return all.stream().filter(p -> p.from != NONE).count();
            }
            return (long) (noCourt(what - 10) ? NONE : stakesOf(all, what - 10, years() - 1));
        });
    }

    // ---- 3

    int least() {
        if (sons.isEmpty()) {
            return STATE;
        }
        for (int many = 0; many <= sons.size(); many++) {
            for (int set = 0; set < 32; set++) {
                int chosen = set;
                if (set >> sons.size() == 0 && Integer.bitCount(set) == many
                    && temptations(sentFrom(s -> (chosen >> s & 1) == 1 ? 0 : NONE)).isEmpty()) {
                    return set;
                }
            }
        }
        return NONE;
    }

    private int firstOf(List<Prince> all, int c) {
        return temptations(all).stream().filter(t -> t % 10 == c).map(t -> t / 10).findFirst().orElse(NONE);
    }

    int hole(int c) {
        return noCourt(c) ? UNKNOWN : firstOf(sentFrom(s -> 0), c);
    }

    int when(int s) {
        if (noSon(s)) {
            return UNKNOWN;
        }
        int latest = NONE;
        for (int y = 0; y <= years(); y++) {
            int from = y == years() ? NONE : y;
            if (firstOf(sentFrom(t -> t == s ? from : 0), sons.get(s).father) == NONE) {
                latest = y;
            }
        }
        return latest;
    }

    // ---- 4

    int reading(int c, int year, boolean was) {
        if (noCourt(c)) {
            return UNKNOWN;
        }
        if (noYear(year)) {
            return OUTSIDE;
        }
        if (readings.size() == 8) {
            return FULL;
        }
        readings.add(new Reading(c, year, was));
        return readings.size() - 1;
    }

    int back(int k) {
        if (k < 0 || k > readings.size()) {
            return OUTSIDE;
        }
        readings.subList(readings.size() - k, readings.size()).clear();
        return readings.size();
    }

    private int fitting(int s, int most, IntFunction<Prince> other) {
        int set = 0;
        for (int v = 0; v <= most; v++) {
            List<Prince> all = new ArrayList<>(sons);
            all.set(s, other.apply(v));
            TreeSet<Integer> so = temptations(all);
            if (readings.stream().allMatch(r -> so.contains(10 * r.year + r.court) == r.was)) {
                set += 1 << v;
            }
        }
        return set;
    }

    int worths(int s) {
        return noSon(s) ? UNKNOWN
            : fitting(s, 9, v -> like(sons.get(s), kindOf(sons.get(s)), v, sons.get(s).fond));
    }

    int kinds(int s) {
        return noSon(s) ? UNKNOWN : fitting(s, 2, v -> like(sons.get(s), v, sons.get(s).worth, sons.get(s).fond));
    }

    int fondness(int s) {
        return noSon(s) ? UNKNOWN
            : fitting(s, 3, v -> like(sons.get(s), kindOf(sons.get(s)), sons.get(s).worth, v));
    }

    /** How often there is a BREAK by a YEAR, over every choice for the SONS from s on. */
    private long breaks(List<Prince> all, int s, int year) {
        if (s == all.size()) {
            int first = ofBreak(all, 0);
            return first != NONE && first <= year ? 1 : 0;
        }
        Prince p = all.get(s);
        long sum = breaks(all, s + 1, year);
        if (p.from != NONE) {
            all.set(s, like(p, 2, p.worth, p.fond));
            sum += breaks(all, s + 1, year);
            all.set(s, p);
        }
        return sum;
    }

    long odds(int year, int which) {
        if (sons.isEmpty() || noYear(year) || which < 0 || which > 1) {
            return LOST;
        }
        long upper = breaks(new ArrayList<>(sons), 0, year);
        long lower = 1L << sons.stream().filter(p -> p.from != NONE).count();
        long common = gcd(upper, lower);
        return (which == 0 ? upper : lower) / common;
    }

    private static long gcd(long a, long b) {
        return b == 0 ? a : gcd(b, a % b);
    }

    // ---- 5

    int sheet(int k, int lane, int n) {
        return (int) guarded(false, () -> {
            if (noSheet(k)) {
                return (long) UNKNOWN;
            }
            if (lane < 0 || lane > 2 || n > 60) {
                return (long) OUTSIDE;
            }
            sheets[k] = lane == 0 ? new byte[n] : lane == 1 ? new short[n] : new int[n];
            return 1L;
        });
    }

    int lose(int k) {
        if (noSheet(k)) {
            return UNKNOWN;
        }
        int answer = sheets[k] == null ? 0 : 1;
        sheets[k] = null;
        return answer;
    }

    int put(int k, int i, int v) {
        return (int) guarded(false, () -> {
            if (noSheet(k)) {
                return (long) UNKNOWN;
            }
            if (sheets[k] instanceof byte[] b) {
                b[i] = (byte) v;
            } else if (sheets[k] instanceof short[] h) {
                h[i] = (short) v;
            } else {
                ((int[]) sheets[k])[i] = v;
            }
            return 1L;
        });
    }

    long cell(int k, int i, int lane) {
        return guarded(true, () -> noSheet(k) || lane < 0 || lane > 2 ? LOST : (long) at(sheets[k], lane, i));
    }

    int copy(int k, int i, int other, int j, int n) {
        return (int) guarded(false, () -> {
            if (noSheet(k) || noSheet(other)) {
                return (long) UNKNOWN;
            }
            System.arraycopy(sheets[k], i, sheets[other], j, n);
            return (long) n;
        });
    }

    int tell(int s) {
        return noSon(s) ? UNKNOWN : sons.get(s).told(this);
    }

    int teach(int s) {
        return noSon(s) ? UNKNOWN : sons.get(s).lesson(this, s);
    }

    int as(int s, int kind) {
        return (int) guarded(false, () -> {
            if (noSon(s)) {
                return (long) UNKNOWN;
            }
            if (kind < 0 || kind > 2) {
                return (long) OUTSIDE;
            }
            Class<?> wanted = kind == 0 ? Prince.class : kind == 1 ? Heir.class : Page.class;
            wanted.cast(sons.get(s));
            return 1L;
        });
    }

    int trace() {
        return trace;
    }

    int fault() {
        return fault;
    }

    int many(int what) {
        switch (what) {
            case 0:
                return sons.size();
            case 1:
                return gains.length;
            case 2:
                return years();
            case 3:
                return (int) sons.stream().filter(p -> p.from != NONE).count();
            case 4:
                return readings.size();
            default:
                return OUTSIDE;
        }
    }
}
