/** A treaty kept by sons who are brought up by the foe; the promises stand in ../shared/DOC.md. */
public final class FosterSons {
    public static final int UNKNOWN = -1, OUTSIDE = -2, STATE = -3, FULL = -4, NONE = -9;
    public static final long LOST = Long.MIN_VALUE;

    private static final int NULL = 1, CAST = 2, INDEX = 3, SIZE = 4;
    private static final int SON = 0, HEIR = 1, PAGE = 2;
    private static final int SHEETS = 4, MOST_CELLS = 60;
    private static final int BYTES = 0, SHORTS = 1, INTS = 2;
    private static final int MOST_COURTS = 4, MOST_YEARS = 6, MOST_SONS = 5, MOST_READINGS = 8;
    private static final int MOST_GAIN = 9, MOST_WORTH = 9, MOST_FOND = 3;

    private final Sheet[] sheets = new Sheet[SHEETS];
    private final Text text = new Text();
    private Treaty pact = new Treaty();
    private Treaty draft = new Treaty();
    private final Sending sent = new Sending();
    private final Sending trial = new Sending();
    private final Readings readings = new Readings();
    private int traced = 0;
    private int latestFault = 0;

    public FosterSons() {
        for (int k = 0; k < SHEETS; k++) {
            sheets[k] = new Sheet();
        }
    }

    // ---- 1 the treaty

    public int treaty(int sheet, int lane, int i, int n) {
        latestFault = 0;
        if (!isSheet(sheet)) {
            return UNKNOWN;
        }
        if (!isLane(lane)) {
            return OUTSIDE;
        }
        int met = rowFault(sheets[sheet], lane, i, n);
        if (met != 0) {
            return faulted(met);
        }
        text.open(sheets[sheet], i, n);
        if (!draft.readsAll(text)) {
            return -100 - text.place;
        }
        beginAnew();
        return pact.sons;
    }

    // The draft is read first, so that a TEXT with a fault leaves the old TREATY as it was.
    private void beginAnew() {
        Treaty old = pact;
        pact = draft;
        draft = old;
        sent.nobody();
        readings.count = 0;
    }

    public int ofSon(int s, int what) {
        if (!isSon(s)) {
            return UNKNOWN;
        }
        switch (what) {
            case 0:
                return pact.kind[s];
            case 1:
                return pact.father[s];
            case 2:
                return pact.worth[s];
            case 3:
                return pact.fond[s];
            case 4:
                return sent.ever(s) ? sent.to[s] : NONE;
            case 5:
                return sent.ever(s) ? sent.from[s] : NONE;
            default:
                return OUTSIDE;
        }
    }

    public int gain(int c, int year) {
        if (!isCourt(c)) {
            return UNKNOWN;
        }
        if (!isYear(year)) {
            return OUTSIDE;
        }
        return pact.gains[c][year];
    }

    public int tempt(int c, int year, int v) {
        if (!isCourt(c)) {
            return UNKNOWN;
        }
        if (!isYear(year) || v < 0 || v > MOST_GAIN) {
            return OUTSIDE;
        }
        int was = pact.gains[c][year];
        pact.gains[c][year] = v;
        return was;
    }

    // ---- 2 who is sent

    public int send(int s, int c, int year) {
        if (!isSon(s) || !isCourt(c)) {
            return UNKNOWN;
        }
        if (!isYear(year)) {
            return OUTSIDE;
        }
        if (c == pact.father[s]) {
            return STATE;
        }
        boolean otherwise = sent.ever(s) && (sent.to[s] != c || sent.from[s] != year);
        sent.to[s] = c;
        sent.from[s] = year;
        return otherwise ? 0 : 1;
    }

    public int home(int s) {
        if (!isSon(s)) {
            return UNKNOWN;
        }
        if (!sent.ever(s)) {
            return 0;
        }
        sent.from[s] = MOST_YEARS;
        return 1;
    }

    public int stake(int s, int year) {
        if (!isSon(s)) {
            return UNKNOWN;
        }
        if (!isYear(year)) {
            return OUTSIDE;
        }
        if (!sent.isAway(s, year)) {
            return NONE;
        }
        return pact.costOf(s, pact.kind[s], year - sent.from[s]);
    }

    public int stakes(int c, int year) {
        if (!isCourt(c)) {
            return UNKNOWN;
        }
        if (!isYear(year)) {
            return OUTSIDE;
        }
        return pact.costsOf(c, year, sent, 0);
    }

    public int tempted(int year) {
        if (!hasTreaty()) {
            return STATE;
        }
        if (!isYear(year)) {
            return OUTSIDE;
        }
        int set = 0;
        for (int c = 0; c < pact.courts; c++) {
            if (pact.wouldBreak(c, year, sent, 0)) {
                set |= 1 << c;
            }
        }
        return set;
    }

    public int broken(int what) {
        if (what != 0 && what != 1) {
            return OUTSIDE;
        }
        if (!hasTreaty()) {
            return STATE;
        }
        return ofBreak(sent, what);
    }

    private int ofBreak(Sending who, int what) {
        int year = pact.breakYear(who, 0);
        return what == 0 || year == NONE ? year : pact.firstToBreak(year, who, 0);
    }

    public int plan(int sheet, int lane, int i, int n, int what) {
        latestFault = 0;
        if (!isSheet(sheet)) {
            return UNKNOWN;
        }
        if (!isLane(lane) || !isOfPlan(what)) {
            return OUTSIDE;
        }
        int met = rowFault(sheets[sheet], lane, i, n);
        if (met != 0) {
            return faulted(met);
        }
        if (!hasTreaty()) {
            return STATE;
        }
        if (n != pact.sons || !tryPlan(sheets[sheet], i)) {
            return OUTSIDE;
        }
        return ofTrial(what);
    }

    private static boolean isOfPlan(int what) {
        return what >= 0 && what <= 2 || what >= 10 && what < 10 + MOST_COURTS;
    }

    private boolean tryPlan(Sheet row, int i) {
        trial.nobody();
        for (int s = 0; s < pact.sons; s++) {
            int from = row.at(i + s);
            if (from < 0 || from > pact.years) {
                return false;
            }
            trial.from[s] = from;
        }
        return true;
    }

    private int ofTrial(int what) {
        int last = pact.years - 1;
        if (what < 2) {
            return ofBreak(trial, what);
        }
        if (what == 2) {
            return trial.howManyBy(last);
        }
        return isCourt(what - 10) ? pact.costsOf(what - 10, last, trial, 0) : NONE;
    }

    // ---- 3 the fewest sons

    public int least() {
        if (!hasTreaty()) {
            return STATE;
        }
        int best = NONE;
        for (int set = 0; set < 1 << pact.sons; set++) {
            // Sets come in rising order, so of several as small the first stays.
            boolean fewer = best == NONE || Integer.bitCount(set) < Integer.bitCount(best);
            if (fewer) {
                trial.fromTheStart(set);
                best = pact.breakYear(trial, 0) == NONE ? set : best;
            }
        }
        return best;
    }

    public int hole(int c) {
        if (!isCourt(c)) {
            return UNKNOWN;
        }
        trial.fromTheStart(everySon());
        return pact.breakYearOf(c, trial);
    }

    public int when(int s) {
        if (!isSon(s)) {
            return UNKNOWN;
        }
        trial.fromTheStart(everySon());
        for (int year = pact.years; year >= 0; year--) {
            trial.from[s] = year;
            if (pact.breakYearOf(pact.father[s], trial) == NONE) {
                return year;
            }
        }
        return NONE;
    }

    private int everySon() {
        return (1 << pact.sons) - 1;
    }

    // ---- 4 who broke

    public int reading(int c, int year, boolean was) {
        if (!isCourt(c)) {
            return UNKNOWN;
        }
        if (!isYear(year)) {
            return OUTSIDE;
        }
        return readings.note(c, year, was);
    }

    public int back(int k) {
        if (k < 0 || k > readings.count) {
            return OUTSIDE;
        }
        readings.count -= k;
        return readings.count;
    }

    public int worths(int s) {
        return isSon(s) ? fitting(pact.worth, s, MOST_WORTH) : UNKNOWN;
    }

    public int kinds(int s) {
        return isSon(s) ? fitting(pact.kind, s, PAGE) : UNKNOWN;
    }

    public int fondness(int s) {
        return isSon(s) ? fitting(pact.fond, s, MOST_FOND) : UNKNOWN;
    }

    // Each number stands in the TREATY itself while it is tried; the told one comes back at the end.
    private int fitting(int[] told, int s, int most) {
        int really = told[s];
        int set = 0;
        for (int v = 0; v <= most; v++) {
            told[s] = v;
            if (readings.allSo(pact, sent)) {
                set |= 1 << v;
            }
        }
        told[s] = really;
        return set;
    }

    public long odds(int year, int which) {
        if (!hasTreaty() || !isYear(year) || which != 0 && which != 1) {
            return LOST;
        }
        int away = sent.setOf();
        int upper = 0;
        int lower = 0;
        for (int pages = 0; pages < 1 << pact.sons; pages++) {
            if ((pages & away) == pages) {
                lower++;
                upper += breaksBy(year, pages) ? 1 : 0;
            }
        }
        // The lower number is a power of 2, so halving alone brings least terms.
        for (int h = 0; h < MOST_SONS && upper % 2 == 0 && lower % 2 == 0; h++) {
            upper /= 2;
            lower /= 2;
        }
        return which == 0 ? upper : lower;
    }

    private boolean breaksBy(int year, int pages) {
        int first = pact.breakYear(sent, pages);
        return first != NONE && first <= year;
    }

    // ---- 5 sheets, parts

    public int sheet(int k, int lane, int n) {
        latestFault = 0;
        if (!isSheet(k)) {
            return UNKNOWN;
        }
        if (!isLane(lane) || n > MOST_CELLS) {
            return OUTSIDE;
        }
        if (n < 0) {
            return faulted(SIZE);
        }
        sheets[k].begin(lane, n);
        return 1;
    }

    public int lose(int k) {
        if (!isSheet(k)) {
            return UNKNOWN;
        }
        boolean had = sheets[k].hasRow;
        sheets[k].hasRow = false;
        return had ? 1 : 0;
    }

    public int put(int k, int i, int v) {
        latestFault = 0;
        if (!isSheet(k)) {
            return UNKNOWN;
        }
        if (!sheets[k].hasRow) {
            return faulted(NULL);
        }
        if (!sheets[k].hasCell(i)) {
            return faulted(INDEX);
        }
        sheets[k].write(i, v);
        return 1;
    }

    public long cell(int k, int i, int lane) {
        latestFault = 0;
        if (!isSheet(k) || !isLane(lane)) {
            return LOST;
        }
        int met = laneFault(sheets[k], lane);
        if (met == 0 && !sheets[k].hasCell(i)) {
            met = INDEX;
        }
        latestFault = met;
        return met == 0 ? sheets[k].at(i) : LOST;
    }

    public int copy(int k, int i, int other, int j, int n) {
        latestFault = 0;
        if (!isSheet(k) || !isSheet(other)) {
            return UNKNOWN;
        }
        Sheet source = sheets[k];
        Sheet target = sheets[other];
        if (!source.hasRow || !target.hasRow) {
            return faulted(NULL);
        }
        if (source.lane != target.lane) {
            return faulted(CAST);
        }
        if (!source.hasCells(i, n) || !target.hasCells(j, n)) {
            return faulted(INDEX);
        }
        System.arraycopy(source.cells, i, target.cells, j, n);
        return n;
    }

    public int tell(int s) {
        if (!isSon(s)) {
            return UNKNOWN;
        }
        switch (pact.kind[s]) {
            case PAGE:
                return pageTells(s);
            case HEIR:
                return heirTells(s);
            default:
                return sonTells(s);
        }
    }

    private int sonTells(int s) {
        leaveTrace(1);
        return pact.worth[s];
    }

    private int heirTells(int s) {
        leaveTrace(2);
        return sonTells(s) + 100;
    }

    private int pageTells(int s) {
        leaveTrace(3);
        int asHeir = heirTells(s);
        return asHeir + sonTells(s);
    }

    public int teach(int s) {
        if (!isSon(s)) {
            return UNKNOWN;
        }
        if (pact.kind[s] == PAGE) {
            leaveTrace(5);
            return 50;
        }
        leaveTrace(4);
        return s;
    }

    private void leaveTrace(int body) {
        traced = 31 * traced + body;
    }

    public int as(int s, int kind) {
        latestFault = 0;
        if (!isSon(s)) {
            return UNKNOWN;
        }
        if (kind < SON || kind > PAGE) {
            return OUTSIDE;
        }
        // Each kind is of all the kinds below it, too.
        return kind <= pact.kind[s] ? 1 : faulted(CAST);
    }

    public int trace() {
        return traced;
    }

    public int fault() {
        return latestFault;
    }

    public int many(int what) {
        switch (what) {
            case 0:
                return pact.sons;
            case 1:
                return pact.courts;
            case 2:
                return pact.years;
            case 3:
                return Integer.bitCount(sent.setOf());
            case 4:
                return readings.count;
            default:
                return OUTSIDE;
        }
    }

    // ---- what there is, and faults

    private boolean hasTreaty() {
        return pact.sons > 0;
    }

    private boolean isSon(int s) {
        return s >= 0 && s < pact.sons;
    }

    private boolean isCourt(int c) {
        return c >= 0 && c < pact.courts;
    }

    private boolean isYear(int year) {
        return year >= 0 && year < pact.years;
    }

    private static boolean isSheet(int k) {
        return k >= 0 && k < SHEETS;
    }

    private static boolean isLane(int lane) {
        return lane >= BYTES && lane <= INTS;
    }

    private int faulted(int met) {
        latestFault = met;
        return -10 - met;
    }

    private static int laneFault(Sheet row, int lane) {
        if (!row.hasRow) {
            return NULL;
        }
        return row.lane == lane ? 0 : CAST;
    }

    private static int rowFault(Sheet row, int lane, int i, int n) {
        int met = laneFault(row, lane);
        if (met != 0) {
            return met;
        }
        if (n < 0) {
            return SIZE;
        }
        return row.hasCells(i, n) ? 0 : INDEX;
    }

    /** A SHEET: one row, used again for every LANE and length, so that a new row costs no room. */
    private static final class Sheet {
        final int[] cells = new int[MOST_CELLS];
        boolean hasRow = false;
        int lane = BYTES;
        int length = 0;

        void begin(int newLane, int newLength) {
            hasRow = true;
            lane = newLane;
            length = Math.max(0, Math.min(newLength, MOST_CELLS));
            for (int i = 0; i < MOST_CELLS; i++) {
                cells[i] = 0;
            }
        }

        boolean hasCell(int i) {
            return i >= 0 && i < length;
        }

        // Written so that no sum of i and n can wrap.
        boolean hasCells(int i, int n) {
            return i >= 0 && i <= length && n >= 0 && n <= length - i;
        }

        int at(int i) {
            return hasCell(i) ? cells[i] : 0;
        }

        void write(int i, int v) {
            if (hasCell(i)) {
                cells[i] = cut(v);
            }
        }

        private int cut(int v) {
            switch (lane) {
                case BYTES:
                    return (byte) v;
                case SHORTS:
                    return (short) v;
                default:
                    return v;
            }
        }
    }

    /** The codes of a TEXT: place stays at the first one that is not taken, the FIRST FAULT. */
    private static final class Text {
        private final int[] codes = new int[MOST_CELLS];
        private int length = 0;
        int place = 0;

        void open(Sheet row, int i, int n) {
            length = Math.max(0, Math.min(n, MOST_CELLS));
            place = 0;
            for (int k = 0; k < length; k++) {
                codes[k] = row.at(i + k);
            }
        }

        boolean isAtEnd() {
            return place >= length;
        }

        boolean takes(char code) {
            return takesDigit(code, code) != NONE;
        }

        /** How far the next code is beyond the first that may be; NONE: it isn't taken. */
        int takesDigit(int first, int last) {
            if (place >= length || codes[place] < first || codes[place] > last) {
                return NONE;
            }
            int beyond = codes[place] - first;
            place++;
            return beyond;
        }

        int takesKind() {
            if (takes('s')) {
                return SON;
            }
            if (takes('h')) {
                return HEIR;
            }
            return takes('p') ? PAGE : NONE;
        }
    }

    /** What a TEXT tells, and what follows of it if these or those SONS are SENT. */
    private static final class Treaty {
        int courts = 0;
        int years = 0;
        int sons = 0;
        final int[][] gains = new int[MOST_COURTS][MOST_YEARS];
        final int[] kind = new int[MOST_SONS];
        final int[] father = new int[MOST_SONS];
        final int[] worth = new int[MOST_SONS];
        final int[] fond = new int[MOST_SONS];

        boolean readsAll(Text text) {
            return readsHead(text) && readsGains(text) && readsSons(text);
        }

        private boolean readsHead(Text text) {
            if (!text.takes('x')) {
                return false;
            }
            int moreCourts = text.takesDigit('2', '4');
            if (moreCourts == NONE) {
                return false;
            }
            int moreYears = text.takesDigit('1', '6');
            if (moreYears == NONE) {
                return false;
            }
            courts = 2 + moreCourts;
            years = 1 + moreYears;
            return true;
        }

        private boolean readsGains(Text text) {
            for (int c = 0; c < courts; c++) {
                if (!text.takes('/')) {
                    return false;
                }
                for (int year = 0; year < years; year++) {
                    gains[c][year] = text.takesDigit('0', '9');
                    if (gains[c][year] == NONE) {
                        return false;
                    }
                }
            }
            return true;
        }

        private boolean readsSons(Text text) {
            for (int s = 0; s < MOST_SONS; s++) {
                if (!readsSon(text, s)) {
                    return false;
                }
                sons = s + 1;
                if (text.isAtEnd()) {
                    return true;
                }
            }
            return false;
        }

        private boolean readsSon(Text text, int s) {
            if (!text.takes(',')) {
                return false;
            }
            kind[s] = text.takesKind();
            if (kind[s] == NONE) {
                return false;
            }
            father[s] = text.takesDigit('0', '0' + courts - 1);
            if (father[s] == NONE) {
                return false;
            }
            worth[s] = text.takesDigit('0', '9');
            if (worth[s] == NONE) {
                return false;
            }
            fond[s] = text.takesDigit('0', '3');
            return fond[s] != NONE;
        }

        /** STAKE of a SON, if he were of that kind and away for so many YEARS. */
        int costOf(int s, int asKind, int away) {
            int lessened = worth[s] - fond[s] * away;
            int left = lessened < 0 ? 0 : lessened;
            switch (asKind) {
                case PAGE:
                    return left / 2;
                case HEIR:
                    return left + 2;
                default:
                    return left;
            }
        }

        /** STAKES of a COURT; SONS of the set pages are taken as PAGES. */
        int costsOf(int c, int year, Sending who, int pages) {
            int sum = 0;
            for (int s = 0; s < sons; s++) {
                if (father[s] == c && who.isAway(s, year)) {
                    int asKind = (pages >> s & 1) == 1 ? PAGE : kind[s];
                    sum += costOf(s, asKind, year - who.from[s]);
                }
            }
            return sum;
        }

        boolean wouldBreak(int c, int year, Sending who, int pages) {
            return gains[c][year] > costsOf(c, year, who, pages);
        }

        int firstToBreak(int year, Sending who, int pages) {
            for (int c = 0; c < courts; c++) {
                if (wouldBreak(c, year, who, pages)) {
                    return c;
                }
            }
            return NONE;
        }

        int breakYear(Sending who, int pages) {
            for (int year = 0; year < years; year++) {
                if (firstToBreak(year, who, pages) != NONE) {
                    return year;
                }
            }
            return NONE;
        }

        int breakYearOf(int c, Sending who) {
            for (int year = 0; year < years; year++) {
                if (wouldBreak(c, year, who, 0)) {
                    return year;
                }
            }
            return NONE;
        }
    }

    /** Who is SENT: a SON whose YEAR is beyond every YEAR that there can be is not. */
    private static final class Sending {
        final int[] to = new int[MOST_SONS];
        final int[] from = new int[MOST_SONS];

        Sending() {
            fromTheStart(0);
        }

        void nobody() {
            fromTheStart(0);
        }

        void fromTheStart(int set) {
            for (int s = 0; s < MOST_SONS; s++) {
                from[s] = (set >> s & 1) == 1 ? 0 : MOST_YEARS;
            }
        }

        boolean ever(int s) {
            return from[s] < MOST_YEARS;
        }

        boolean isAway(int s, int year) {
            return from[s] <= year;
        }

        int howManyBy(int year) {
            int count = 0;
            for (int s = 0; s < MOST_SONS; s++) {
                count += isAway(s, year) ? 1 : 0;
            }
            return count;
        }

        int setOf() {
            int set = 0;
            for (int s = 0; s < MOST_SONS; s++) {
                set |= ever(s) ? 1 << s : 0;
            }
            return set;
        }
    }

    /** READINGS are kept as they were told, and held against what is SENT when they are asked of. */
    private static final class Readings {
        private final int[] court = new int[MOST_READINGS];
        private final int[] year = new int[MOST_READINGS];
        private final boolean[] was = new boolean[MOST_READINGS];
        int count = 0;

        int note(int c, int inYear, boolean wasTempted) {
            if (count >= MOST_READINGS) {
                return FULL;
            }
            int number = count;
            court[number] = c;
            year[number] = inYear;
            was[number] = wasTempted;
            count++;
            return number;
        }

        boolean allSo(Treaty pact, Sending who) {
            for (int r = 0; r < count; r++) {
                if (pact.wouldBreak(court[r], year[r], who, 0) != was[r]) {
                    return false;
                }
            }
            return true;
        }
    }
}
