/** The edges of promises 22 to 32. */
public final class PartsEdgeTest {
    private static final Edge EDGE = new Edge("PartsEdgeTest");
    private static final int UNKNOWN = FosterSons.UNKNOWN, OUTSIDE = FosterSons.OUTSIDE;
    private static final int MIN = Edge.MIN, MAX = Edge.MAX;

    public static void main(String[] args) {
        sheetUnknown();
        sheetOutside();
        sheetSize();
        sheetInOrder();
        sheetOfNoneAndOfSixty();
        sheetGetsANewRow();
        loseEdges();
        putUnknown();
        putNull();
        putIndex();
        putIsCut();
        cellRefused();
        cellCast();
        cellNull();
        cellIndex();
        copyUnknown();
        copyNull();
        copyCast();
        copyIndex();
        copyNone();
        copyToTheSame();
        copySixty();
        tellEdges();
        teachEdges();
        asEdges();
        asOfEachKind();
        traceWraps();
        traceIsOfTellingAlone();
        faultAheadOfAny();
        faultOfCallsThatNameNone();
        faultOfTheLatest();
        manyEdges();
        manyOfNoneAndOfAll();
        lastOf512Calls();
        EDGE.end(22, 32);
    }

    private static void sheetUnknown() {
        EDGE.sentence(22, "UNKNOWN");
        for (int k : Edge.beyond(0, 3)) {
            EDGE.refused(Scene.TREATY, UNKNOWN, "sheet", k, 0, 1);
            EDGE.refused(Scene.NEW, UNKNOWN, "sheet", k, 0, 1);
        }
    }

    private static void sheetOutside() {
        EDGE.sentence(22, "OUTSIDE: lane, n above 60");
        for (int lane : Edge.beyond(0, 2)) {
            EDGE.refused(Scene.TREATY, OUTSIDE, "sheet", 0, lane, 1);
            EDGE.refused(Scene.NEW, OUTSIDE, "sheet", 0, lane, 1);
        }
        for (int n : new int[] {61, 100, MAX}) {
            EDGE.refused(Scene.TREATY, OUTSIDE, "sheet", 0, 0, n);
            EDGE.refused(Scene.NEW, OUTSIDE, "sheet", 3, 2, n);
            EDGE.refused(Scene.FULL, OUTSIDE, "sheet", 3, 0, n);
        }
    }

    private static void sheetSize() {
        EDGE.sentence(22, "SIZE (a length below 0)");
        for (int n : new int[] {-1, -60, MIN}) {
            EDGE.faulted(Scene.TREATY, Edge.SIZE, "sheet", 0, 0, n);
            EDGE.faulted(Scene.NEW, Edge.SIZE, "sheet", 3, 2, n);
            EDGE.faulted(Scene.FULL, Edge.SIZE, "sheet", 3, 0, n);
        }
    }

    private static void sheetInOrder() {
        EDGE.sentence(22, "UNKNOWN ahead of OUTSIDE ahead of SIZE");
        EDGE.refused(Scene.TREATY, UNKNOWN, "sheet", 4, 3, 61);
        EDGE.refused(Scene.TREATY, UNKNOWN, "sheet", -1, 0, -1);
        EDGE.refused(Scene.TREATY, OUTSIDE, "sheet", 0, 3, -1);
        EDGE.refused(Scene.TREATY, OUTSIDE, "sheet", 3, -1, MIN);
    }

    private static void sheetOfNoneAndOfSixty() {
        EDGE.sentence(22, "a row of 0 .. 60 numbers");
        for (int k = 0; k < 4; k++) {
            for (int lane = 0; lane < 3; lane++) {
                FosterSons x = new FosterSons();
                EDGE.call(x, 1, 0, "sheet", k, lane, 0);
                EDGE.call(x, FosterSons.LOST, Edge.INDEX, "cell", k, 0, lane);
                EDGE.call(x, -13, Edge.INDEX, "put", k, 0, 1);
                EDGE.call(x, 1, "lose", k);
                EDGE.call(x, 1, 0, "sheet", k, lane, 60);
                EDGE.call(x, 1, 0, "put", k, 59, 1);
                EDGE.call(x, 1, 0, "cell", k, 59, lane);
                EDGE.call(x, -13, Edge.INDEX, "put", k, 60, 1);
                EDGE.call(x, 1, 0, "sheet", k, lane, 1);
                EDGE.call(x, 0, 0, "cell", k, 0, lane);
                EDGE.call(x, FosterSons.LOST, Edge.INDEX, "cell", k, 1, lane);
            }
        }
    }

    private static void sheetGetsANewRow() {
        EDGE.sentence(22, "a new row (0 at first)");
        String zeros = "0 ".repeat(60);
        for (int lane = 0; lane < 3; lane++) {
            FosterSons x = new FosterSons();
            Check.lay(x, 0, 2, "9".repeat(60).chars().toArray());
            EDGE.call(x, 1, 0, "sheet", 0, lane, 60);
            EDGE.due("the new row of lane " + lane, Check.row(x, 0, lane, 60), zeros);
        }
        FosterSons x = Scene.FULL.make();
        EDGE.call(x, 1, 0, "sheet", 3, 2, 60);
        EDGE.call(x, FosterSons.LOST, Edge.CAST, "cell", 3, 0, 0);
        EDGE.due("the new row", Check.row(x, 3, 2, 60), zeros);
        EDGE.call(x, 101, 0, "cell", 1, 59, 1);
        EDGE.call(x, 102, 0, "cell", 2, 59, 2);
        EDGE.call(x, 1, 0, "sheet", 1, 1, 59);
        EDGE.call(x, 1, 0, "sheet", 1, 1, 60);
        EDGE.call(x, 0, 0, "cell", 1, 59, 1);
        EDGE.call(x, 1, "lose", 2);
        EDGE.call(x, 1, 0, "sheet", 2, 2, 60);
        EDGE.call(x, 0, 0, "cell", 2, 59, 2);
    }

    private static void loseEdges() {
        EDGE.sentence(23, "UNKNOWN");
        for (int k : Edge.beyond(0, 3)) {
            EDGE.refused(Scene.TREATY, UNKNOWN, "lose", k);
            EDGE.refused(Scene.FULL, UNKNOWN, "lose", k);
        }
        EDGE.sentence(23, "1; 0: it had nothing");
        EDGE.keeps(Scene.TREATY, 0, "lose", 3);
        for (int k = 0; k < 4; k++) {
            FosterSons x = Scene.FULL.make();
            EDGE.call(x, 1, "lose", k);
            EDGE.call(x, 0, "lose", k);
            EDGE.call(x, FosterSons.LOST, Edge.NULL, "cell", k, 0, k % 3);
            EDGE.call(x, 1, "lose", (k + 1) % 4);
            EDGE.call(x, 5, "many", 0);
        }
        FosterSons x = new FosterSons();
        EDGE.call(x, 1, "sheet", 0, 0, 0);
        EDGE.call(x, 1, "lose", 0);
        EDGE.call(x, 0, "lose", 0);
    }

    private static void putUnknown() {
        EDGE.sentence(24, "UNKNOWN");
        for (int k : Edge.beyond(0, 3)) {
            EDGE.refused(Scene.TREATY, UNKNOWN, "put", k, 0, 1);
            EDGE.refused(Scene.TREATY, UNKNOWN, "put", k, 99, 1);
        }
    }

    private static void putNull() {
        EDGE.sentence(24, "NULL, ahead of INDEX");
        for (int i : new int[] {MIN, -1, 0, 59, 60, MAX}) {
            EDGE.faulted(Scene.TREATY, Edge.NULL, "put", 3, i, 1);
            EDGE.faulted(Scene.NEW, Edge.NULL, "put", 0, i, 1);
        }
    }

    private static void putIndex() {
        EDGE.sentence(24, "INDEX");
        for (int i : Edge.beyond(0, 4)) {
            EDGE.faulted(Scene.TREATY, Edge.INDEX, "put", 1, i, 1);
        }
        for (int i : Edge.beyond(0, 59)) {
            EDGE.faulted(Scene.FULL, Edge.INDEX, "put", 0, i, 1);
            EDGE.faulted(Scene.FULL, Edge.INDEX, "put", 2, i, 1);
        }
        FosterSons x = Scene.TREATY.make();
        EDGE.call(x, 1, 0, "put", 1, 0, 7);
        EDGE.call(x, 1, 0, "put", 1, 4, 8);
        EDGE.call(x, 7, 0, "cell", 1, 0, 1);
        EDGE.call(x, 1, 0, "cell", 1, 1, 1);
        EDGE.call(x, 8, 0, "cell", 1, 4, 1);
    }

    private static void putIsCut() {
        EDGE.sentence(24, "what comes to a cell of it is cut to its LANE");
        int[][][] cuts = {
            {{127, 127}, {128, -128}, {-128, -128}, {-129, 127}, {255, -1}, {256, 0}, {-256, 0}, {MAX, -1}, {MIN, 0}},
            {{32767, 32767}, {32768, -32768}, {-32768, -32768}, {-32769, 32767}, {65535, -1}, {65536, 0}, {128, 128},
                {MAX, -1}, {MIN, 0}},
            {{MAX, MAX}, {MIN, MIN}, {65536, 65536}, {-32769, -32769}, {128, 128}, {0, 0}, {-1, -1}}};
        for (int lane = 0; lane < 3; lane++) {
            FosterSons x = new FosterSons();
            x.sheet(3, lane, 60);
            for (int[] cut : cuts[lane]) {
                EDGE.call(x, 1, 0, "put", 3, 59, cut[0]);
                EDGE.due("put as " + cut[0] + " of lane " + lane, x.cell(3, 59, lane), cut[1]);
            }
        }
    }

    private static void cellRefused() {
        EDGE.sentence(25, "LOST: UNKNOWN, OUTSIDE: lane");
        for (int k : Edge.beyond(0, 3)) {
            EDGE.refused(Scene.TREATY, UNKNOWN, "cell", k, 0, 0);
            EDGE.refused(Scene.TREATY, UNKNOWN, "cell", k, -1, 3);
        }
        for (int lane : Edge.beyond(0, 2)) {
            EDGE.refused(Scene.TREATY, OUTSIDE, "cell", 0, 0, lane);
            EDGE.refused(Scene.TREATY, OUTSIDE, "cell", 3, 0, lane);
            EDGE.refused(Scene.TREATY, OUTSIDE, "cell", 0, -1, lane);
        }
    }

    private static void cellCast() {
        EDGE.sentence(25, "CAST, ahead of INDEX");
        for (int k = 0; k < 3; k++) {
            for (int more = 1; more < 3; more++) {
                EDGE.faulted(Scene.TREATY, Edge.CAST, "cell", k, 0, (k + more) % 3);
                EDGE.faulted(Scene.TREATY, Edge.CAST, "cell", k, -1, (k + more) % 3);
                EDGE.faulted(Scene.TREATY, Edge.CAST, "cell", k, 60, (k + more) % 3);
            }
        }
        FosterSons x = new FosterSons();
        x.sheet(0, 1, 0);
        EDGE.call(x, FosterSons.LOST, Edge.CAST, "cell", 0, 0, 0);
        EDGE.call(x, FosterSons.LOST, Edge.INDEX, "cell", 0, 0, 1);
    }

    private static void cellNull() {
        EDGE.sentence(25, "nothing is no CAST: NULL, ahead of INDEX");
        for (int lane = 0; lane < 3; lane++) {
            EDGE.faulted(Scene.TREATY, Edge.NULL, "cell", 3, 0, lane);
            EDGE.faulted(Scene.TREATY, Edge.NULL, "cell", 3, -1, lane);
            EDGE.faulted(Scene.NEW, Edge.NULL, "cell", 0, 60, lane);
            FosterSons x = Scene.FULL.make();
            x.lose(1);
            EDGE.call(x, FosterSons.LOST, Edge.NULL, "cell", 1, 0, lane);
        }
    }

    private static void cellIndex() {
        EDGE.sentence(25, "INDEX");
        for (int i : Edge.beyond(0, 42)) {
            EDGE.faulted(Scene.TREATY, Edge.INDEX, "cell", 0, i, 0);
        }
        for (int i : Edge.beyond(0, 4)) {
            EDGE.faulted(Scene.TREATY, Edge.INDEX, "cell", 1, i, 1);
        }
        for (int i : Edge.beyond(0, 59)) {
            EDGE.faulted(Scene.FULL, Edge.INDEX, "cell", 2, i, 2);
        }
        EDGE.keeps(Scene.TREATY, 'x', "cell", 0, 0, 0);
        EDGE.keeps(Scene.TREATY, '0', "cell", 0, 42, 0);
        EDGE.keeps(Scene.TREATY, -1, "cell", 2, 0, 2);
        EDGE.keeps(Scene.TREATY, 70000, "cell", 2, 59, 2);
    }

    private static void copyUnknown() {
        EDGE.sentence(26, "UNKNOWN, ahead of FAULTS");
        for (int k : Edge.beyond(0, 3)) {
            EDGE.refused(Scene.TREATY, UNKNOWN, "copy", k, 0, 0, 0, 1);
            EDGE.refused(Scene.TREATY, UNKNOWN, "copy", 0, 0, k, 0, 1);
            EDGE.refused(Scene.TREATY, UNKNOWN, "copy", 3, -1, k, -1, -1);
            EDGE.refused(Scene.NEW, UNKNOWN, "copy", k, 0, k, 0, 0);
        }
    }

    private static void copyNull() {
        EDGE.sentence(26, "NULL (the first, the other), ahead of CAST and INDEX");
        for (int k = 0; k < 4; k++) {
            EDGE.faulted(Scene.TREATY, Edge.NULL, "copy", k, 0, 3, 0, 0);
            EDGE.faulted(Scene.TREATY, Edge.NULL, "copy", 3, 0, k, 0, 0);
            EDGE.faulted(Scene.TREATY, Edge.NULL, "copy", k, -1, 3, 99, 1);
            EDGE.faulted(Scene.TREATY, Edge.NULL, "copy", 3, 99, k, -1, -1);
        }
        EDGE.faulted(Scene.NEW, Edge.NULL, "copy", 0, 0, 0, 0, 0);
        EDGE.faulted(Scene.NEW, Edge.NULL, "copy", 0, 0, 1, 0, 0);
    }

    private static void copyCast() {
        EDGE.sentence(26, "CAST (unlike LANES), ahead of INDEX");
        for (int k = 0; k < 3; k++) {
            for (int more = 1; more < 3; more++) {
                EDGE.faulted(Scene.TREATY, Edge.CAST, "copy", k, 0, (k + more) % 3, 0, 1);
                EDGE.faulted(Scene.TREATY, Edge.CAST, "copy", k, 0, (k + more) % 3, 0, 0);
                EDGE.faulted(Scene.TREATY, Edge.CAST, "copy", k, -1, (k + more) % 3, 61, -1);
            }
        }
    }

    private static void copyIndex() {
        EDGE.sentence(26, "INDEX: i, j, n below 0 or beyond");
        int[][] wrong = {{-1, 0, 1}, {0, -1, 1}, {0, 0, -1}, {-1, 0, 0}, {0, -1, 0}, {6, 0, 0}, {0, 6, 0}, {5, 0, 1},
            {0, 5, 1}, {0, 0, 6}, {1, 0, 5}, {0, 1, 5}, {MIN, 0, 0}, {0, MIN, 0}, {0, 0, MIN}, {MAX, 0, 0},
            {0, MAX, 0}, {0, 0, MAX}, {MAX, 0, 1}, {0, MAX, 1}, {1, 0, MAX}, {0, 1, MAX}, {MAX, MAX, MAX},
            {MIN, MIN, MIN}, {5, 5, MAX}, {MAX, 0, MIN}};
        for (int[] w : wrong) {
            EDGE.faulted(Scene.TREATY, Edge.INDEX, "copy", 1, w[0], 1, w[1], w[2]);
        }
        // A longer row and a shorter one of the same LANE: each has an end of its own.
        FosterSons x = new FosterSons();
        Check.lay(x, 0, 1, 1, 2, 3, 4);
        Check.lay(x, 1, 1, 8, 9);
        EDGE.call(x, -13, Edge.INDEX, "copy", 0, 0, 1, 0, 3);
        EDGE.call(x, -13, Edge.INDEX, "copy", 0, 2, 1, 1, 2);
        EDGE.call(x, -13, Edge.INDEX, "copy", 0, 0, 1, 3, 0);
        EDGE.call(x, -13, Edge.INDEX, "copy", 1, 1, 0, 0, 2);
        EDGE.call(x, -13, Edge.INDEX, "copy", 1, 3, 0, 0, 0);
        EDGE.due("as it was", Check.row(x, 0, 1, 4) + Check.row(x, 1, 1, 2), "1 2 3 4 8 9 ");
        EDGE.call(x, 2, 0, "copy", 0, 2, 1, 0, 2);
        EDGE.due("copied", Check.row(x, 0, 1, 4) + Check.row(x, 1, 1, 2), "1 2 3 4 3 4 ");
        EDGE.call(x, 1, 0, "copy", 1, 1, 0, 0, 1);
        EDGE.due("copied", Check.row(x, 0, 1, 4) + Check.row(x, 1, 1, 2), "4 2 3 4 3 4 ");
    }

    private static void copyNone() {
        EDGE.sentence(26, "n cells: none");
        EDGE.keeps(Scene.TREATY, 0, "copy", 1, 0, 1, 0, 0);
        EDGE.keeps(Scene.TREATY, 0, "copy", 1, 5, 1, 5, 0);
        EDGE.keeps(Scene.FULL, 0, "copy", 0, 60, 3, 60, 0);
        EDGE.faulted(Scene.FULL, Edge.INDEX, "copy", 0, 61, 3, 60, 0);
        EDGE.faulted(Scene.FULL, Edge.INDEX, "copy", 0, 60, 3, 61, 0);
        FosterSons x = new FosterSons();
        x.sheet(0, 2, 0);
        x.sheet(1, 2, 0);
        EDGE.call(x, 0, 0, "copy", 0, 0, 1, 0, 0);
        EDGE.call(x, -13, Edge.INDEX, "copy", 0, 0, 1, 0, 1);
        EDGE.call(x, -13, Edge.INDEX, "copy", 0, 1, 1, 0, 0);
        EDGE.call(x, -13, Edge.INDEX, "copy", 0, 0, 1, 1, 0);
        EDGE.call(x, -13, Edge.INDEX, "copy", 0, 0, 1, 0, -1);
    }

    private static void copyToTheSame() {
        EDGE.sentence(26, "perhaps the same, as they were");
        int[][] moves = {{0, 1, 4}, {1, 0, 4}, {0, 2, 3}, {2, 0, 3}, {0, 0, 5}, {0, 4, 1}, {4, 0, 1}, {1, 2, 2}};
        String[] want = {"1 1 2 3 4 ", "2 3 4 5 5 ", "1 2 1 2 3 ", "3 4 5 4 5 ", "1 2 3 4 5 ", "1 2 3 4 1 ",
            "5 2 3 4 5 ", "1 2 2 3 5 "};
        for (int lane = 0; lane < 3; lane++) {
            for (int m = 0; m < moves.length; m++) {
                FosterSons x = new FosterSons();
                Check.lay(x, 2, lane, 1, 2, 3, 4, 5);
                EDGE.call(x, moves[m][2], 0, "copy", 2, moves[m][0], 2, moves[m][1], moves[m][2]);
                EDGE.due("the row", Check.row(x, 2, lane, 5), want[m]);
            }
        }
    }

    private static void copySixty() {
        EDGE.sentence(26, "n cells: all of 60");
        FosterSons x = Scene.FULL.make();
        EDGE.call(x, 60, 0, "copy", 0, 0, 3, 0, 60);
        EDGE.due("the rows", Check.row(x, 3, 0, 60), Check.row(x, 0, 0, 60));
        EDGE.call(x, -13, Edge.INDEX, "copy", 0, 0, 3, 0, 61);
        EDGE.call(x, 1, 0, "put", 0, 59, 9);
        EDGE.call(x, '3', 0, "cell", 3, 59, 0);
        EDGE.call(x, 59, 0, "copy", 0, 1, 3, 0, 59);
        EDGE.call(x, 9, 0, "cell", 3, 58, 0);
    }

    private static void tellEdges() {
        EDGE.sentence(27, "UNKNOWN");
        EDGE.beyondSons(0, "tell", 0);
        EDGE.sentence(27, "TELLING by WORTH 0 and 9 of each kind, with the bodies' numbers in TRACE");
        FosterSons x = Check.with("x21/0/0,s000,s090,h000,h090,p000");
        told(x, 0, 0, 1);
        told(x, 1, 9, 1);
        told(x, 2, 100, 2, 1);
        told(x, 3, 109, 2, 1);
        told(x, 4, 100, 3, 2, 1, 1);
        told(Check.with("x21/0/0,p093"), 0, 118, 3, 2, 1, 1);
    }

    private static int traceOf(int trace, int... bodies) {
        int left = trace;
        for (int body : bodies) {
            left = 31 * left + body;
        }
        return left;
    }

    private static void told(FosterSons x, int s, int want, int... bodies) {
        int trace = traceOf(x.trace(), bodies);
        EDGE.call(x, want, "tell", s);
        EDGE.call(x, trace, "trace");
    }

    private static void teachEdges() {
        EDGE.sentence(28, "UNKNOWN");
        EDGE.beyondSons(0, "teach", 0);
        EDGE.sentence(28, "his number; PAGES 50");
        FosterSons x = Check.with("x21/0/0,s000,p000,h000,p000,s000");
        int[] want = {0, 50, 2, 50, 4};
        int trace = 0;
        for (int s = 0; s < 5; s++) {
            trace = traceOf(trace, want[s] == 50 ? 5 : 4);
            EDGE.call(x, want[s], "teach", s);
            EDGE.call(x, trace, "trace");
        }
    }

    private static void asEdges() {
        EDGE.sentence(29, "UNKNOWN; OUTSIDE; CAST, in that order");
        EDGE.beyondSons(0, "as", 0, 0);
        EDGE.beyondSons(0, "as", 0, 3);
        for (int kind : Edge.beyond(0, 2)) {
            EDGE.refused(Scene.TREATY, OUTSIDE, "as", 0, kind);
            EDGE.refused(Scene.TREATY, OUTSIDE, "as", 2, kind);
        }
    }

    private static void asOfEachKind() {
        EDGE.sentence(29, "CAST: he is none (each is a SON, too; a PAGE is an HEIR)");
        EDGE.keeps(Scene.TREATY, 1, "as", 0, 0);
        EDGE.faulted(Scene.TREATY, Edge.CAST, "as", 0, 1);
        EDGE.faulted(Scene.TREATY, Edge.CAST, "as", 0, 2);
        EDGE.keeps(Scene.TREATY, 1, "as", 4, 0);
        EDGE.keeps(Scene.TREATY, 1, "as", 4, 1);
        EDGE.faulted(Scene.TREATY, Edge.CAST, "as", 4, 2);
        EDGE.keeps(Scene.TREATY, 1, "as", 2, 0);
        EDGE.keeps(Scene.TREATY, 1, "as", 2, 1);
        EDGE.keeps(Scene.TREATY, 1, "as", 2, 2);
    }

    private static void traceWraps() {
        EDGE.sentence(30, "an int that wraps, becomes 31 times it and the number");
        FosterSons x = Check.with("x21/0/0,p000");
        int[] want = {5, 160, 4965, 153920, 4771525, 147917280, 290468389, 414585472, -32752251};
        for (int left : want) {
            x.teach(0);
            EDGE.call(x, left, "trace");
        }
    }

    private static void traceIsOfTellingAlone() {
        EDGE.sentence(30, "TRACE");
        EDGE.keeps(Scene.TREATY, 63, "trace");
        EDGE.keeps(Scene.NEW, 0, "trace");
        EDGE.keeps(Scene.FULL, 5, "trace");
    }

    private static void faultAheadOfAny() {
        EDGE.sentence(31, "0 ahead of any");
        FosterSons x = new FosterSons();
        EDGE.call(x, 0, "fault");
        x.many(9);
        x.ofSon(0, 0);
        x.tempted(0);
        x.lose(4);
        EDGE.call(x, 0, "fault");
    }

    private static void faultOfCallsThatNameNone() {
        EDGE.sentence(31, "of the latest call that names one");
        int[] sons = {0, 5};
        for (int s : sons) {
            for (String name : new String[] {"worths", "kinds", "fondness", "when", "hole"}) {
                keepsFault(name, s);
            }
            keepsFault("ofSon", s, 0);
            keepsFault("gain", s, 0);
            keepsFault("stake", s, 0);
            keepsFault("stakes", s, 0);
            keepsFault("tempt", s, 0, 1);
            keepsFault("send", s, 1, 1);
            keepsFault("home", s);
            keepsFault("tempted", s);
            keepsFault("broken", s);
            keepsFault("reading", s, 0, 1);
            keepsFault("back", s);
            keepsFault("odds", s, 0);
            keepsFault("lose", s);
            keepsFault("tell", s);
            keepsFault("teach", s);
            keepsFault("many", s);
        }
        keepsFault("send", 0, 0, 0);
        keepsFault("least");
        keepsFault("trace");
        keepsFault("fault");
    }

    private static void keepsFault(String name, int... args) {
        FosterSons x = Scene.TREATY.make();
        x.as(0, 2);
        Face.call(x, name, args);
        EDGE.due("fault() behind " + Face.text(name, args), x.fault(), Edge.CAST);
        EDGE.due("and again", x.fault(), Edge.CAST);
    }

    private static void faultOfTheLatest() {
        EDGE.sentence(31, "0: it came to none, or was refused");
        forgetsFault("sheet", 0, 0, 1);
        forgetsFault("sheet", 4, 0, 1);
        forgetsFault("put", 0, 0, 1);
        forgetsFault("put", 4, 0, 1);
        forgetsFault("cell", 0, 0, 0);
        forgetsFault("cell", 4, 0, 0);
        forgetsFault("cell", 0, 0, 3);
        forgetsFault("copy", 0, 0, 0, 0, 1);
        forgetsFault("copy", 4, 0, 0, 0, 1);
        forgetsFault("as", 2, 2);
        forgetsFault("as", 5, 0);
        forgetsFault("as", 0, 3);
        forgetsFault("treaty", 0, 0, 0, 43);
        forgetsFault("treaty", 0, 0, 0, 1);
        forgetsFault("treaty", 4, 0, 0, 1);
        forgetsFault("treaty", 0, 3, 0, 1);
        forgetsFault("plan", 1, 1, 0, 5, 0);
        forgetsFault("plan", 1, 1, 0, 5, 3);
        forgetsFault("plan", 1, 1, 0, 4, 0);
        forgetsFault("plan", 4, 1, 0, 5, 0);
    }

    private static void forgetsFault(String name, int... args) {
        FosterSons x = Scene.TREATY.make();
        EDGE.call(x, -12, Edge.CAST, "as", 0, 2);
        Face.call(x, name, args);
        EDGE.due("fault() behind " + Face.text(name, args), x.fault(), 0);
    }

    private static void manyEdges() {
        EDGE.sentence(32, "OUTSIDE");
        for (int what : Edge.beyond(0, 4)) {
            EDGE.refused(Scene.TREATY, OUTSIDE, "many", what);
            EDGE.refused(Scene.NEW, OUTSIDE, "many", what);
        }
    }

    private static void manyOfNoneAndOfAll() {
        int[][] want = {{0, 0, 0, 0, 0}, {0, 0, 0, 0, 0}, {1, 2, 1, 0, 0}, {5, 3, 4, 4, 3}, {5, 4, 6, 5, 8}};
        for (Scene scene : Scene.values()) {
            EDGE.sentence(32, scene.ordinal() < 2 ? "0 all without a TREATY" : "how many");
            for (int what = 0; what < 5; what++) {
                EDGE.keeps(scene, want[scene.ordinal()][what], "many", what);
            }
        }
    }

    private static void lastOf512Calls() {
        EDGE.sentence(30, "an object is used for at most 512 calls");
        FosterSons x = Check.with(Scene.LEAST_TEXT);
        int ahead = 2 + Scene.LEAST_TEXT.length();
        int trace = 0;
        for (int call = ahead + 1; call < 512; call++) {
            x.teach(0);
            trace = traceOf(trace, 4);
        }
        EDGE.call(x, trace, "trace");
    }
}
