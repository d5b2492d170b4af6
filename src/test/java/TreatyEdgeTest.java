/** The edges of promises 1 to 5, and of a TEXT. */
public final class TreatyEdgeTest {
    private static final Edge EDGE = new Edge("TreatyEdgeTest");
    private static final int UNKNOWN = FosterSons.UNKNOWN, OUTSIDE = FosterSons.OUTSIDE, STATE = FosterSons.STATE;
    private static final int NONE = FosterSons.NONE;
    private static final int MIN = Edge.MIN, MAX = Edge.MAX;
    private static final int LENGTH = Scene.TEXT.length();
    private static final String FIVE_SONS = "x21/0/0,s000,s001,h002,p003,s100";

    public static void main(String[] args) {
        newHasNoTreaty();
        newHasNoSonsOrCourts();
        newSheetsHaveNothing();
        newHasNoTraceOrFault();

        treatyUnknownSheet();
        treatyOutsideLane();
        treatyRefusalsInOrder();
        treatyFaultsInOrder();
        treatyNothingIsNoCast();
        treatySize();
        treatyIndex();
        treatyNoneOfTheCellsTaken();
        treatyOfAnEmptyRow();
        treatyAtTheEndOfSixtyCells();
        treatyTakenFromEachSheetAndLane();

        everyCodeAtEveryPlace();
        everyFatherByCourts();
        asManyDigitsAsYears();
        asManyRowsAsCourts();
        oneToFiveSons();
        endsTooSoon();
        firstOfTwoFaults();
        codesAreCutToTheLane();
        faultyTextChangesNothing();
        takenTextMakesAllAnew();

        ofSonEdges();
        ofSonNotSent();
        gainEdges();
        temptEdges();
        temptAnswersWhatItWas();
        EDGE.end(1, 5);
    }

    private static void newHasNoTreaty() {
        EDGE.sentence(1, "no TREATY");
        EDGE.refused(Scene.NEW, STATE, "tempted", 0);
        EDGE.refused(Scene.NEW, STATE, "broken", 0);
        EDGE.refused(Scene.NEW, STATE, "broken", 1);
        EDGE.refused(Scene.NEW, STATE, "least");
        EDGE.refused(Scene.NEW, STATE, "odds", 0, 0);
        EDGE.refused(Scene.NEW, STATE, "odds", 0, 1);
        EDGE.refused(Scene.ROWS, STATE, "plan", 1, 1, 0, 5, 0);
        EDGE.keeps(Scene.NEW, 0, "back", 0);
        EDGE.refused(Scene.NEW, OUTSIDE, "back", 1);
    }

    private static void newHasNoSonsOrCourts() {
        EDGE.sentence(1, "no COURTS, YEARS, SONS");
        for (int what = 0; what <= 4; what++) {
            EDGE.keeps(Scene.NEW, 0, "many", what);
            EDGE.keeps(Scene.ROWS, 0, "many", what);
        }
        EDGE.refused(Scene.NEW, UNKNOWN, "ofSon", 0, 0);
        EDGE.refused(Scene.NEW, UNKNOWN, "gain", 0, 0);
        EDGE.refused(Scene.NEW, UNKNOWN, "tempt", 0, 0, 0);
        EDGE.refused(Scene.NEW, UNKNOWN, "send", 0, 1, 0);
        EDGE.refused(Scene.NEW, UNKNOWN, "stake", 0, 0);
        EDGE.refused(Scene.NEW, UNKNOWN, "stakes", 0, 0);
        EDGE.refused(Scene.NEW, UNKNOWN, "reading", 0, 0, 1);
        EDGE.refused(Scene.NEW, UNKNOWN, "as", 0, 0);
        for (String ofOne : new String[] {"home", "hole", "when", "worths", "kinds", "fondness", "tell", "teach"}) {
            EDGE.refused(Scene.NEW, UNKNOWN, ofOne, 0);
        }
    }

    private static void newSheetsHaveNothing() {
        EDGE.sentence(1, "SHEETS have nothing");
        for (int k = 0; k < 4; k++) {
            EDGE.keeps(Scene.NEW, 0, "lose", k);
            EDGE.faulted(Scene.NEW, Edge.NULL, "put", k, 0, 0);
            for (int lane = 0; lane < 3; lane++) {
                EDGE.faulted(Scene.NEW, Edge.NULL, "cell", k, 0, lane);
            }
        }
    }

    private static void newHasNoTraceOrFault() {
        EDGE.sentence(1, "A new object");
        EDGE.call(new FosterSons(), 0, "fault");
        EDGE.call(new FosterSons(), 0, "trace");
    }

    private static void treatyUnknownSheet() {
        EDGE.sentence(2, "UNKNOWN: no such SHEET");
        for (int k : Edge.beyond(0, 3)) {
            EDGE.refused(Scene.TREATY, UNKNOWN, "treaty", k, 0, 0, LENGTH);
            EDGE.refused(Scene.NEW, UNKNOWN, "treaty", k, 0, 0, 0);
        }
    }

    private static void treatyOutsideLane() {
        EDGE.sentence(2, "OUTSIDE: lane");
        for (int lane : Edge.beyond(0, 2)) {
            EDGE.refused(Scene.TREATY, OUTSIDE, "treaty", 0, lane, 0, LENGTH);
        }
    }

    private static void treatyRefusalsInOrder() {
        EDGE.sentence(2, "UNKNOWN ahead of OUTSIDE ahead of FAULTS");
        EDGE.refused(Scene.TREATY, UNKNOWN, "treaty", 4, 3, -1, -1);
        EDGE.refused(Scene.TREATY, UNKNOWN, "treaty", -1, 0, -1, -1);
        EDGE.refused(Scene.TREATY, OUTSIDE, "treaty", 0, 3, -1, -1);
        EDGE.refused(Scene.TREATY, OUTSIDE, "treaty", 3, -1, 0, 0);
    }

    private static void treatyFaultsInOrder() {
        EDGE.sentence(2, "FAULTS CAST, NULL, SIZE, INDEX: the first that is come to");
        EDGE.faulted(Scene.TREATY, Edge.CAST, "treaty", 0, 1, 0, LENGTH);
        EDGE.faulted(Scene.TREATY, Edge.CAST, "treaty", 0, 2, 0, -1);
        EDGE.faulted(Scene.TREATY, Edge.CAST, "treaty", 1, 0, -1, 0);
        EDGE.faulted(Scene.TREATY, Edge.NULL, "treaty", 3, 0, 0, -1);
        EDGE.faulted(Scene.TREATY, Edge.NULL, "treaty", 3, 0, -1, 0);
        EDGE.faulted(Scene.TREATY, Edge.SIZE, "treaty", 0, 0, -1, -1);
        EDGE.faulted(Scene.TREATY, Edge.SIZE, "treaty", 0, 0, LENGTH + 1, -1);
    }

    private static void treatyNothingIsNoCast() {
        EDGE.sentence(2, "nothing is no CAST");
        for (int lane = 0; lane < 3; lane++) {
            EDGE.faulted(Scene.TREATY, Edge.NULL, "treaty", 3, lane, 0, 0);
            FosterSons x = Scene.TREATY.make();
            EDGE.call(x, 1, "lose", 1);
            EDGE.call(x, -11, Edge.NULL, "treaty", 1, lane, 0, 5);
        }
    }

    private static void treatySize() {
        EDGE.sentence(2, "SIZE: n is below 0");
        EDGE.faulted(Scene.TREATY, Edge.SIZE, "treaty", 0, 0, 0, -1);
        EDGE.faulted(Scene.TREATY, Edge.SIZE, "treaty", 0, 0, 0, MIN);
        EDGE.faulted(Scene.TREATY, Edge.SIZE, "treaty", 0, 0, MIN, MIN);
        EDGE.keeps(Scene.TREATY, -100, "treaty", 0, 0, 0, 0);
    }

    private static void treatyIndex() {
        EDGE.sentence(2, "INDEX: not all cells are there");
        int[][] wrong = {{0, LENGTH + 1}, {1, LENGTH}, {LENGTH, 1}, {-1, 1}, {-1, LENGTH}, {0, MAX}, {1, MAX},
            {LENGTH, MAX}, {MAX, 1}, {MAX, MAX}, {MIN, 1}, {MIN, MAX}};
        for (int[] w : wrong) {
            EDGE.faulted(Scene.TREATY, Edge.INDEX, "treaty", 0, 0, w[0], w[1]);
        }
        EDGE.call(Scene.ROWS.make(), 5, 0, "treaty", 0, 0, 0, LENGTH);
    }

    private static void treatyNoneOfTheCellsTaken() {
        EDGE.sentence(2, "INDEX also where i is not 0 .. how many there are, if none is taken, too");
        for (int i : Edge.beyond(0, LENGTH)) {
            EDGE.faulted(Scene.TREATY, Edge.INDEX, "treaty", 0, 0, i, 0);
        }
        EDGE.keeps(Scene.TREATY, -100, "treaty", 0, 0, 0, 0);
        EDGE.keeps(Scene.TREATY, -100, "treaty", 0, 0, LENGTH, 0);
    }

    private static void treatyOfAnEmptyRow() {
        EDGE.sentence(2, "an empty SHEET");
        FosterSons x = Scene.TREATY.make();
        EDGE.call(x, 1, "sheet", 3, 0, 0);
        EDGE.call(x, -100, 0, "treaty", 3, 0, 0, 0);
        EDGE.call(x, -13, Edge.INDEX, "treaty", 3, 0, 0, 1);
        EDGE.call(x, -13, Edge.INDEX, "treaty", 3, 0, 1, 0);
        EDGE.call(x, -13, Edge.INDEX, "treaty", 3, 0, -1, 0);
        EDGE.call(x, -12, Edge.CAST, "treaty", 3, 1, 0, 0);
        EDGE.call(x, 5, "many", 0);
    }

    private static void treatyAtTheEndOfSixtyCells() {
        EDGE.sentence(2, "n cells of a SHEET from i on");
        int n = Scene.GREATEST_TEXT.length();
        EDGE.due("the greatest TEXT", n, 56);
        EDGE.call(Scene.FULL.make(), 5, 0, "treaty", 0, 0, 4, n);
        EDGE.keeps(Scene.FULL, -155, "treaty", 0, 0, 4, n - 1);
        EDGE.keeps(Scene.FULL, -100, "treaty", 0, 0, 3, n);
        EDGE.keeps(Scene.FULL, -100, "treaty", 0, 0, 0, 60);
        EDGE.keeps(Scene.FULL, -100, "treaty", 0, 0, 60, 0);
        EDGE.faulted(Scene.FULL, Edge.INDEX, "treaty", 0, 0, 4, n + 1);
        EDGE.faulted(Scene.FULL, Edge.INDEX, "treaty", 0, 0, 0, 61);
        EDGE.faulted(Scene.FULL, Edge.INDEX, "treaty", 0, 0, 61, 0);
        FosterSons x = new FosterSons();
        Check.lay(x, 0, 2, Check.codes(Scene.GREATEST_TEXT + ",s00"));
        EDGE.call(x, -156, 0, "treaty", 0, 2, 0, 60);
        EDGE.call(x, 5, 0, "treaty", 0, 2, 0, 56);
    }

    private static void treatyTakenFromEachSheetAndLane() {
        EDGE.sentence(2, "of a SHEET, taken as a row of a LANE: how many SONS");
        for (int k = 0; k < 4; k++) {
            for (int lane = 0; lane < 3; lane++) {
                FosterSons x = new FosterSons();
                Check.lay(x, k, lane, Check.codes("?" + FIVE_SONS + "?"));
                EDGE.call(x, 5, 0, "treaty", k, lane, 1, FIVE_SONS.length());
                EDGE.call(x, 1, 0, "treaty", k, lane, 1, 12);
                EDGE.call(x, 1, "many", 0);
            }
        }
    }

    /** What a TEXT of these codes is answered; LANE 2, so that no code is cut. */
    private static long answer(int... codes) {
        FosterSons x = new FosterSons();
        Check.lay(x, 0, 2, codes);
        return x.treaty(0, 2, 0, codes.length);
    }

    /** Each code behind the codes ahead of it: one that goes on is not the FIRST FAULT, every other one is. */
    private static void codesBehind(String ahead, String goingOn) {
        int[] codes = Check.codes(ahead + "?");
        int place = ahead.length();
        int[] far = {MIN, MAX, 'x' + 256, '/' + 256, '0' + 65536, ',' + 65536, -'x'};
        for (int code = -130; code <= 260 + far.length; code++) {
            codes[place] = code <= 260 ? code : far[code - 261];
            boolean goesOn = code >= 0 && code < 128 && goingOn.indexOf(code) >= 0;
            long got = answer(codes);
            boolean stopped = got == -100 - place;
            EDGE.due("code " + codes[place] + " behind '" + ahead + "' stops it", stopped ? 1 : 0, goesOn ? 0 : 1);
        }
    }

    private static void everyCodeAtEveryPlace() {
        EDGE.sentence(2, "FIRST FAULT: the first code with which no TEXT goes on");
        String[] goingOn = {"x", "234", "123456", "/", "0123456789", "/", "0123456789", ",", "shp", "01", "0123456789",
            "0123", ","};
        String text = Scene.LEAST_TEXT;
        for (int place = 0; place <= text.length(); place++) {
            codesBehind(text.substring(0, place), goingOn[place]);
        }
    }

    private static void everyFatherByCourts() {
        EDGE.sentence(2, "the COURT of his father, one that there is");
        codesBehind("x21/0/0,h", "01");
        codesBehind("x31/0/0/0,h", "012");
        codesBehind("x41/0/0/0/0,p", "0123");
        codesBehind("x21/0/0,s000,s", "01");
    }

    private static void asManyDigitsAsYears() {
        EDGE.sentence(2, "as many digits 0 .. 9 as there are YEARS");
        for (int years = 1; years <= 6; years++) {
            String row = "/999999".substring(0, 1 + years);
            codesBehind("x2" + years + row.substring(0, years), "0123456789");
            codesBehind("x2" + years + row, "/");
            codesBehind("x2" + years + row + row, ",");
            EDGE.due(years + " YEARS", answer(Check.codes("x2" + years + row + row + ",s193")), 1);
        }
    }

    private static void asManyRowsAsCourts() {
        EDGE.sentence(2, "for each COURT: / and digits");
        String rows = "";
        for (int courts = 2; courts <= 4; courts++) {
            rows = courts == 2 ? "/1/2" : rows + "/3";
            codesBehind("x" + courts + "1" + rows.substring(0, rows.length() - 2), "/");
            codesBehind("x" + courts + "1" + rows, ",");
            EDGE.due(courts + " COURTS", answer(Check.codes("x" + courts + "1" + rows + ",p000")), 1);
        }
    }

    private static void oneToFiveSons() {
        EDGE.sentence(2, "1 to 5 SONS (the , of a sixth SON)");
        for (int sons = 1; sons <= 5; sons++) {
            String text = FIVE_SONS.substring(0, 7 + 5 * sons);
            EDGE.due(sons + " SONS", answer(Check.codes(text)), sons);
            codesBehind(text, sons < 5 ? "," : "");
        }
        EDGE.due("no SONS", answer(Check.codes(FIVE_SONS.substring(0, 7))), -107);
        EDGE.due("a sixth", answer(Check.codes(FIVE_SONS + ",s000")), -132);
    }

    private static void endsTooSoon() {
        EDGE.sentence(2, "FIRST FAULT: how many codes there are, if it just ends too soon");
        String text = Scene.GREATEST_TEXT;
        for (int n = 0; n < text.length(); n++) {
            boolean ends = n >= 36 && (n - 31) % 5 == 0;
            EDGE.due("the first " + n, answer(Check.codes(text.substring(0, n))), ends ? (n - 31) / 5 : -100 - n);
        }
    }

    private static void firstOfTwoFaults() {
        EDGE.sentence(2, "-100 less the FIRST FAULT");
        EDGE.due("at 1 and 2", answer(Check.codes("x19/0/0,s000")), -101);
        EDGE.due("at 0 and at the end", answer(Check.codes("?21/0/0,s00")), -100);
        EDGE.due("at 8 and 12", answer(Check.codes("x21/0/0,q000?")), -108);
        EDGE.due("at 11 and by a sixth", answer(Check.codes("x21/0/0,s004,s001,h002,p003,s100,s100")), -111);
    }

    private static void codesAreCutToTheLane() {
        EDGE.sentence(2, "what comes to a cell is cut to its LANE");
        int[] by = {256, 65536, -256, -65536};
        int[][] want = {{1, 1, 1, 1}, {-100, 1, -100, 1}, {-100, -100, -100, -100}};
        for (int lane = 0; lane < 3; lane++) {
            for (int b = 0; b < by.length; b++) {
                FosterSons x = new FosterSons();
                Check.lay(x, 0, lane, Check.codes(Scene.LEAST_TEXT));
                x.put(0, 0, 'x' + by[b]);
                EDGE.due("x and " + by[b] + " of lane " + lane, x.treaty(0, lane, 0, 12), want[lane][b]);
            }
        }
    }

    private static void faultyTextChangesNothing() {
        EDGE.sentence(2, "a TEXT with a FIRST FAULT changes nothing");
        String text = Scene.GREATEST_TEXT;
        for (int n = 0; n < text.length(); n += n < 3 ? 1 : 4) {
            FosterSons x = Scene.TREATY.make();
            Check.lay(x, 3, 0, Check.codes(text.substring(0, n) + "?"));
            x.sheet(0, 0, -1);
            EDGE.call(x, -100 - n, 0, "treaty", 3, 0, 0, n + 1);
            x.lose(3);
            EDGE.due("all behind it", Scene.all(x), Scene.all(Scene.TREATY.make()));
        }
        FosterSons x = Scene.TREATY.make();
        Check.lay(x, 3, 0, Check.codes(FIVE_SONS + ","));
        EDGE.call(x, -132, 0, "treaty", 3, 0, 0, FIVE_SONS.length() + 1);
        x.lose(3);
        EDGE.due("all behind a sixth", Scene.all(x), Scene.all(Scene.TREATY.make()));
    }

    private static void takenTextMakesAllAnew() {
        EDGE.sentence(2, "A TEXT that is taken makes all anew: nobody is SENT, no READINGS");
        FosterSons x = Scene.FULL.make();
        int trace = x.trace();
        EDGE.call(x, 1, "send", 3, 1, 2);
        EDGE.call(x, 5, 0, "treaty", 0, 0, 4, 56);
        EDGE.call(x, 0, "many", 3);
        EDGE.call(x, 0, "many", 4);
        for (int s = 0; s < 5; s++) {
            EDGE.call(x, NONE, "ofSon", s, 4);
            EDGE.call(x, NONE, "ofSon", s, 5);
            EDGE.call(x, NONE, "stake", s, 5);
            EDGE.call(x, 1023, "worths", s);
        }
        EDGE.call(x, 0, "reading", 0, 0, 1);
        EDGE.call(x, 1, "send", 3, 1, 2);
        EDGE.call(x, trace, "trace");
        EDGE.call(x, 'x', "cell", 0, 4, 0);
        EDGE.call(x, 103, "cell", 3, 59, 0);
        x.tempt(0, 0, 9);
        EDGE.call(x, 5, "treaty", 0, 0, 4, 56);
        EDGE.call(x, 1, "gain", 0, 0);
    }

    private static void ofSonEdges() {
        EDGE.sentence(3, "UNKNOWN; OUTSIDE");
        EDGE.beyondSons(0, "ofSon", 0, 0);
        EDGE.beyondSons(0, "ofSon", 0, 6);
        for (int what : Edge.beyond(0, 5)) {
            EDGE.refused(Scene.TREATY, OUTSIDE, "ofSon", 4, what);
            EDGE.refused(Scene.LEAST, OUTSIDE, "ofSon", 0, what);
        }
        EDGE.sentence(3, "0 kind .. 5 the YEAR from which on");
        int[][] want = {{0, 0, 5, 1, 1, 0}, {1, 1, 6, 2, 2, 1}, {2, 2, 7, 0, 0, 2}, {0, 0, 8, 3, NONE, NONE},
            {1, 0, 3, 0, 2, 3}};
        for (int s = 0; s < 5; s++) {
            for (int what = 0; what < 6; what++) {
                EDGE.keeps(Scene.TREATY, want[s][what], "ofSon", s, what);
            }
        }
    }

    private static void ofSonNotSent() {
        EDGE.sentence(3, "the COURT to which he is SENT (NONE), the YEAR from which on (NONE)");
        FosterSons x = Scene.FULL.make();
        EDGE.call(x, 0, "ofSon", 0, 4);
        EDGE.call(x, 0, "ofSon", 0, 5);
        EDGE.call(x, 3, "ofSon", 1, 4);
        EDGE.call(x, 5, "ofSon", 1, 5);
        for (int s = 0; s < 5; s++) {
            x.home(s);
            EDGE.call(x, NONE, "ofSon", s, 4);
            EDGE.call(x, NONE, "ofSon", s, 5);
        }
    }

    private static void gainEdges() {
        EDGE.sentence(4, "UNKNOWN; OUTSIDE");
        EDGE.beyondCourts(0, "gain", 0, 0);
        EDGE.beyondCourts(0, "gain", 0, 6);
        EDGE.beyondYears(1, "gain", 1, 0);
        EDGE.sentence(4, "GAIN of a COURT in a YEAR");
        EDGE.keeps(Scene.FULL, 1, "gain", 0, 0);
        EDGE.keeps(Scene.FULL, 6, "gain", 0, 5);
        EDGE.keeps(Scene.FULL, 9, "gain", 3, 5);
        EDGE.keeps(Scene.LEAST, 0, "gain", 1, 0);
    }

    private static void temptEdges() {
        EDGE.sentence(5, "UNKNOWN; OUTSIDE");
        EDGE.beyondCourts(0, "tempt", 0, 0, 1);
        EDGE.beyondCourts(0, "tempt", 0, 6, 1);
        EDGE.beyondCourts(0, "tempt", 0, 0, 10);
        EDGE.beyondYears(1, "tempt", 1, 0, 1);
        EDGE.sentence(5, "v (0 .. 9)");
        for (int v : Edge.beyond(0, 9)) {
            EDGE.refused(Scene.TREATY, OUTSIDE, "tempt", 0, 0, v);
            EDGE.refused(Scene.FULL, OUTSIDE, "tempt", 3, 5, v);
        }
    }

    private static void temptAnswersWhatItWas() {
        EDGE.sentence(5, "GAIN becomes v (0 .. 9): what it was");
        FosterSons x = Scene.FULL.make();
        EDGE.call(x, 1, "tempt", 0, 0, 0);
        EDGE.call(x, 0, "tempt", 0, 0, 9);
        EDGE.call(x, 9, "tempt", 0, 0, 9);
        EDGE.call(x, 9, "gain", 0, 0);
        EDGE.call(x, 2, "gain", 0, 1);
        EDGE.call(x, 6, "gain", 1, 0);
        EDGE.call(x, 9, "tempt", 3, 5, 0);
        EDGE.call(x, 0, "gain", 3, 5);
        EDGE.call(x, 9, "gain", 3, 4);
        EDGE.keeps(Scene.TREATY, 4, "tempt", 2, 3, 4);
    }
}
