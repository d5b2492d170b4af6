/** Promises 22 to 32: sheet, lose, put, cell, copy, tell, teach, as, trace, fault, many. */
public final class PartsTest {
    private static final Check CHECK = new Check("PartsTest");
    private static final long LOST = FosterSons.LOST;

    public static void main(String[] args) {
        sheets();
        losing();
        putting();
        cutToTheLane();
        cells();
        copying();
        copyFaults();
        telling();
        teaching();
        kindsAsTaken();
        traceWraps();
        faultIsOfTheLatestCallThatNamesOne();
        counting();
        CHECK.end();
    }

    private static void after(FosterSons x, String call, long got, long want, int fault) {
        CHECK.due(call, got, want);
        CHECK.due("fault after " + call, x.fault(), fault);
    }

    private static void sheets() {
        FosterSons x = new FosterSons();
        after(x, "sheet(4, 9, 99)", x.sheet(4, 9, 99), FosterSons.UNKNOWN, 0);
        after(x, "sheet(-1, 0, 0)", x.sheet(-1, 0, 0), FosterSons.UNKNOWN, 0);
        after(x, "sheet(0, 3, -1)", x.sheet(0, 3, -1), FosterSons.OUTSIDE, 0);
        after(x, "sheet(0, -1, 1)", x.sheet(0, -1, 1), FosterSons.OUTSIDE, 0);
        after(x, "sheet(0, 0, 61)", x.sheet(0, 0, 61), FosterSons.OUTSIDE, 0);
        after(x, "sheet(0, 0, -1)", x.sheet(0, 0, -1), -14, 4);
        CHECK.due("still nothing", x.lose(0), 0);
        after(x, "sheet(3, 2, 60)", x.sheet(3, 2, 60), 1, 0);
        CHECK.due("cell 59", x.put(3, 59, 7), 1);
        after(x, "sheet(3, 2, MIN)", x.sheet(3, 2, Integer.MIN_VALUE), -14, 4);
        CHECK.due("stays", x.cell(3, 59, 2), 7);
        CHECK.due("a new row", x.sheet(3, 2, 60), 1);
        CHECK.due("is 0 at first", x.cell(3, 59, 2), 0);
        CHECK.due("a row of none", x.sheet(3, 0, 0), 1);
        after(x, "cell of none", x.cell(3, 0, 0), LOST, 3);
        CHECK.due("it is a row", x.lose(3), 1);
    }

    private static void losing() {
        FosterSons x = new FosterSons();
        x.sheet(1, 0, 3);
        CHECK.due("lose(1)", x.lose(1), 1);
        CHECK.due("lose(1) again", x.lose(1), 0);
        after(x, "put on nothing", x.put(1, 0, 1), -11, 1);
        CHECK.due("lose(4)", x.lose(4), FosterSons.UNKNOWN);
        CHECK.due("lose(-1)", x.lose(-1), FosterSons.UNKNOWN);
    }

    private static void putting() {
        FosterSons x = new FosterSons();
        after(x, "put(4, 0, 0)", x.put(4, 0, 0), FosterSons.UNKNOWN, 0);
        after(x, "put(-1, 0, 0)", x.put(-1, 0, 0), FosterSons.UNKNOWN, 0);
        after(x, "put(0, 99, 0)", x.put(0, 99, 0), -11, 1);
        x.sheet(0, 2, 2);
        after(x, "put(0, 2, 5)", x.put(0, 2, 5), -13, 3);
        after(x, "put(0, -1, 5)", x.put(0, -1, 5), -13, 3);
        after(x, "put(0, 1, MIN)", x.put(0, 1, Integer.MIN_VALUE), 1, 0);
        CHECK.due("cell 1", x.cell(0, 1, 2), Integer.MIN_VALUE);
        CHECK.due("cell 0", x.cell(0, 0, 2), 0);
    }

    private static void cutToTheLane() {
        int[] put = {127, 128, 255, 256, -129, 32767, 32768, 65535, 70000, Integer.MAX_VALUE, Integer.MIN_VALUE};
        long[][] want = {
            {127, -128, -1, 0, 127, -1, 0, -1, 112, -1, 0},
            {127, 128, 255, 256, -129, 32767, -32768, -1, 4464, -1, 0},
            {127, 128, 255, 256, -129, 32767, 32768, 65535, 70000, Integer.MAX_VALUE, Integer.MIN_VALUE}};
        for (int lane = 0; lane < 3; lane++) {
            FosterSons x = new FosterSons();
            Check.lay(x, 2, lane, put);
            for (int i = 0; i < put.length; i++) {
                CHECK.due(put[i] + " of lane " + lane, x.cell(2, i, lane), want[lane][i]);
            }
        }
    }

    private static void cells() {
        FosterSons x = new FosterSons();
        Check.lay(x, 0, 1, 5, -6);
        after(x, "cell(0, 1, 1)", x.cell(0, 1, 1), -6, 0);
        after(x, "cell(0, 9, 0)", x.cell(0, 9, 0), LOST, 2);
        after(x, "cell(0, 9, 3)", x.cell(0, 9, 3), LOST, 0);
        after(x, "cell(0, 0, 2)", x.cell(0, 0, 2), LOST, 2);
        after(x, "cell(0, 0, -1)", x.cell(0, 0, -1), LOST, 0);
        after(x, "cell(1, 9, 0)", x.cell(1, 9, 0), LOST, 1);
        after(x, "cell(4, 0, 0)", x.cell(4, 0, 0), LOST, 0);
        after(x, "cell(0, 2, 1)", x.cell(0, 2, 1), LOST, 3);
        after(x, "cell(-1, 0, 0)", x.cell(-1, 0, 0), LOST, 0);
        after(x, "cell(0, -1, 1)", x.cell(0, -1, 1), LOST, 3);
    }

    private static void copying() {
        FosterSons x = new FosterSons();
        Check.lay(x, 0, 0, 1, 2, 3, 4, 5);
        Check.lay(x, 1, 0, 9, 9, 9);
        after(x, "copy", x.copy(0, 3, 1, 0, 2), 2, 0);
        CHECK.due("copied", Check.row(x, 1, 0, 3), "4 5 9 ");
        CHECK.due("up", x.copy(0, 0, 0, 1, 4), 4);
        CHECK.due("as they were", Check.row(x, 0, 0, 5), "1 1 2 3 4 ");
        CHECK.due("down", x.copy(0, 1, 0, 0, 4), 4);
        CHECK.due("as they were", Check.row(x, 0, 0, 5), "1 2 3 4 4 ");
        CHECK.due("none, at the ends", x.copy(0, 5, 1, 3, 0), 0);
        CHECK.due("the other is another row", x.put(0, 3, 7), 1);
        CHECK.due("it stays", Check.row(x, 1, 0, 3), "4 5 9 ");
    }

    private static void copyFaults() {
        FosterSons x = new FosterSons();
        after(x, "copy(4, ..)", x.copy(4, 0, 0, 0, 0), FosterSons.UNKNOWN, 0);
        after(x, "copy(0, 0, 4, ..)", x.copy(0, 0, 4, 0, 0), FosterSons.UNKNOWN, 0);
        after(x, "copy(-1, ..)", x.copy(-1, 0, 0, 0, 0), FosterSons.UNKNOWN, 0);
        after(x, "copy(0, 0, -1, ..)", x.copy(0, 0, -1, 0, 0), FosterSons.UNKNOWN, 0);
        after(x, "both nothing", x.copy(0, -1, 1, -1, -1), -11, 1);
        Check.lay(x, 0, 0, 1, 2, 3);
        after(x, "the other nothing", x.copy(0, -1, 1, -1, -1), -11, 1);
        after(x, "the first nothing", x.copy(1, -1, 0, -1, -1), -11, 1);
        Check.lay(x, 1, 1, 7, 8);
        after(x, "unlike lanes", x.copy(0, -1, 1, -1, -1), -12, 2);
        after(x, "unlike lanes, none", x.copy(0, 0, 1, 0, 0), -12, 2);
        Check.lay(x, 2, 0, 7, 8);
        int[][] wrong = {{-1, 0, 0}, {0, -1, 0}, {0, 0, -1}, {4, 0, 0}, {0, 3, 0}, {1, 0, 3}, {0, 0, 3}, {0, 1, 2},
            {Integer.MAX_VALUE, 0, 1}, {0, Integer.MAX_VALUE, 1}, {1, 1, Integer.MAX_VALUE}, {0, 0, Integer.MIN_VALUE}};
        for (int[] w : wrong) {
            after(x, "copy(0, " + w[0] + ", 2, " + w[1] + ", " + w[2] + ")", x.copy(0, w[0], 2, w[1], w[2]), -13, 3);
        }
        CHECK.due("nothing changed", Check.row(x, 2, 0, 2), "7 8 ");
    }

    private static void telling() {
        FosterSons x = Check.with("x21/0/0,s041,h152,p063");
        CHECK.due("son", x.tell(0), 4);
        CHECK.due("trace", x.trace(), 1);
        CHECK.due("heir", x.tell(1), 105);
        CHECK.due("trace", x.trace(), (31 + 2) * 31 + 1);
        FosterSons y = Check.with("x21/0/0,p063");
        CHECK.due("page", y.tell(0), 112);
        CHECK.due("trace", y.trace(), ((3 * 31 + 2) * 31 + 1) * 31 + 1);
        CHECK.due("tell(1)", y.tell(1), FosterSons.UNKNOWN);
        CHECK.due("tell(-1)", y.tell(-1), FosterSons.UNKNOWN);
        CHECK.due("trace stays", y.trace(), ((3 * 31 + 2) * 31 + 1) * 31 + 1);
    }

    private static void teaching() {
        FosterSons x = Check.with("x21/0/0,s041,h152,p063,p063,h063");
        int[] want = {0, 1, 50, 50, 4};
        int trace = 0;
        for (int s = 0; s < 5; s++) {
            trace = 31 * trace + (want[s] == 50 ? 5 : 4);
            CHECK.due("teach(" + s + ")", x.teach(s), want[s]);
            CHECK.due("trace", x.trace(), trace);
        }
        CHECK.due("teach(5)", x.teach(5), FosterSons.UNKNOWN);
        CHECK.due("teach(-1)", x.teach(-1), FosterSons.UNKNOWN);
        CHECK.due("trace stays", x.trace(), trace);
    }

    private static void kindsAsTaken() {
        FosterSons x = Check.with("x21/0/0,s041,h152,p063");
        for (int s = 0; s < 3; s++) {
            for (int kind = 0; kind < 3; kind++) {
                boolean is = kind <= s;
                after(x, "as(" + s + ", " + kind + ")", x.as(s, kind), is ? 1 : -12, is ? 0 : 2);
            }
            after(x, "as(" + s + ", 3)", x.as(s, 3), FosterSons.OUTSIDE, 0);
            after(x, "as(" + s + ", -1)", x.as(s, -1), FosterSons.OUTSIDE, 0);
        }
        x.as(0, 2);
        after(x, "as(3, 3)", x.as(3, 3), FosterSons.UNKNOWN, 0);
        after(x, "as(-1, 0)", x.as(-1, 0), FosterSons.UNKNOWN, 0);
        after(x, "as(2, 2)", x.as(2, 2), 1, 0);
        CHECK.due("no trace", x.trace(), 0);
    }

    private static void traceWraps() {
        FosterSons x = Check.with("x21/0/0,p063");
        int trace = 0;
        for (int call = 0; call < 20; call++) {
            x.tell(0);
            trace = (((31 * trace + 3) * 31 + 2) * 31 + 1) * 31 + 1;
        }
        CHECK.due("trace", x.trace(), trace);
        CHECK.due("trace again", x.trace(), trace);
    }

    private static void faultIsOfTheLatestCallThatNamesOne() {
        FosterSons x = Check.with("x22/00/00,s041");
        x.as(0, 2);
        x.ofSon(9, 0);
        x.ofSon(0, 0);
        x.gain(0, 0);
        x.tempt(0, 0, 1);
        x.send(0, 1, 0);
        x.home(0);
        x.stake(0, 0);
        x.stakes(0, 0);
        x.tempted(0);
        x.broken(0);
        x.least();
        x.hole(0);
        x.when(0);
        x.reading(0, 0, true);
        x.back(1);
        x.worths(0);
        x.kinds(0);
        x.fondness(0);
        x.odds(0, 0);
        x.lose(3);
        x.lose(9);
        x.tell(0);
        x.teach(0);
        x.trace();
        x.many(0);
        x.fault();
        CHECK.due("others name none", x.fault(), 2);
        x.sheet(1, 0, 2);
        CHECK.due("sheet names one", x.fault(), 0);
        x.as(0, 2);
        x.put(1, 0, 0);
        CHECK.due("put names one", x.fault(), 0);
        x.as(0, 2);
        x.cell(1, 0, 0);
        CHECK.due("cell names one", x.fault(), 0);
        x.as(0, 2);
        x.copy(1, 0, 1, 0, 0);
        CHECK.due("copy names one", x.fault(), 0);
        x.as(0, 2);
        x.plan(1, 0, 0, 1, 0);
        CHECK.due("plan names one", x.fault(), 0);
        x.as(0, 2);
        x.treaty(1, 0, 0, 1);
        CHECK.due("treaty names one", x.fault(), 0);
        x.as(0, 2);
        x.as(0, 0);
        CHECK.due("as names one", x.fault(), 0);
    }

    private static void counting() {
        FosterSons x = Check.with("x35/00000/00000/00000,s041,h152,p063,s000");
        x.send(0, 1, 0);
        x.send(3, 1, 4);
        x.reading(0, 0, true);
        x.reading(0, 0, true);
        x.reading(0, 0, true);
        int[] want = {4, 3, 5, 2, 3};
        for (int what = 0; what < 5; what++) {
            CHECK.due("many(" + what + ")", x.many(what), want[what]);
        }
        CHECK.due("many(5)", x.many(5), FosterSons.OUTSIDE);
        CHECK.due("many(-1)", x.many(-1), FosterSons.OUTSIDE);
        CHECK.due("many(5) of no treaty", new FosterSons().many(5), FosterSons.OUTSIDE);
    }
}
