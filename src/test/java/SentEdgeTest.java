/** The edges of promises 6 to 12. */
public final class SentEdgeTest {
    private static final Edge EDGE = new Edge("SentEdgeTest");
    private static final int UNKNOWN = FosterSons.UNKNOWN, OUTSIDE = FosterSons.OUTSIDE, STATE = FosterSons.STATE;
    private static final int NONE = FosterSons.NONE;
    private static final int MIN = Edge.MIN, MAX = Edge.MAX;

    public static void main(String[] args) {
        sendUnknown();
        sendOutside();
        sendToHisFather();
        sendAnswers();
        sendAll();
        homeEdges();
        stakeRefused();
        stakeByThen();
        stakeIsNothingAtLeast();
        stakeOfHeir();
        stakeOfPageIsCut();
        stakesEdges();
        stakesOfNobodyAndOfAll();
        temptedRefused();
        temptedIfMore();
        brokenRefused();
        brokenFirstYearLeastCourt();

        planUnknownSheet();
        planOutside();
        planRefusalsInOrder();
        planFaultsInOrder();
        planIndex();
        planState();
        planAsManyAsSons();
        planCells();
        planCellsAreCut();
        planAnswers();
        planOfNobodyAndOfAll();
        EDGE.end(6, 12);
    }

    private static void sendUnknown() {
        EDGE.sentence(6, "UNKNOWN: SON, COURT");
        EDGE.beyondSons(0, "send", 0, 1, 0);
        EDGE.beyondCourts(1, "send", 0, 0, 0);
        EDGE.beyondSons(0, "send", 0, 1, 6);
        EDGE.beyondCourts(1, "send", 0, 0, 6);
        EDGE.refused(Scene.TREATY, UNKNOWN, "send", 3, 3, 0);
    }

    private static void sendOutside() {
        EDGE.sentence(6, "OUTSIDE: year");
        EDGE.beyondYears(2, "send", 0, 1, 0);
        EDGE.beyondYears(2, "send", 0, 0, 0);
        EDGE.refused(Scene.TREATY, OUTSIDE, "send", 3, 1, 4);
    }

    private static void sendToHisFather() {
        EDGE.sentence(6, "STATE: it is his father's");
        int[] fathers = {0, 1, 2, 0, 0};
        for (int s = 0; s < 5; s++) {
            EDGE.refused(Scene.TREATY, STATE, "send", s, fathers[s], 0);
            EDGE.refused(Scene.TREATY, STATE, "send", s, fathers[s], 3);
        }
        EDGE.refused(Scene.LEAST, STATE, "send", 0, 0, 0);
        EDGE.refused(Scene.FULL, STATE, "send", 0, 3, 5);
    }

    private static void sendAnswers() {
        EDGE.sentence(6, "1; 0: he was SENT elsewhere, or from another YEAR on");
        EDGE.keeps(Scene.TREATY, 1, "send", 0, 1, 0);
        FosterSons x = Scene.TREATY.make();
        sent(x, 1, 3, 2, 3);
        sent(x, 0, 3, 1, 3);
        sent(x, 0, 3, 1, 0);
        sent(x, 0, 3, 2, 1);
        sent(x, 1, 3, 2, 1);
        EDGE.call(x, 5, "many", 3);
        x.home(3);
        sent(x, 1, 3, 1, 2);
    }

    private static void sent(FosterSons x, int want, int s, int c, int year) {
        EDGE.call(x, want, "send", s, c, year);
        EDGE.call(x, c, "ofSon", s, 4);
        EDGE.call(x, year, "ofSon", s, 5);
    }

    private static void sendAll() {
        EDGE.sentence(6, "the least and the greatest SON, COURT, YEAR");
        FosterSons x = Check.with(Scene.GREATEST_TEXT);
        sent(x, 1, 0, 0, 0);
        sent(x, 1, 4, 0, 5);
        sent(x, 1, 3, 3, 5);
        sent(x, 1, 1, 0, 0);
        sent(x, 1, 2, 3, 0);
        EDGE.call(x, 5, "many", 3);
        FosterSons y = Check.with(Scene.LEAST_TEXT);
        sent(y, 1, 0, 1, 0);
    }

    private static void homeEdges() {
        EDGE.sentence(7, "UNKNOWN");
        EDGE.beyondSons(0, "home", 0);
        EDGE.sentence(7, "1; 0: he was not");
        EDGE.keeps(Scene.TREATY, 0, "home", 3);
        EDGE.keeps(Scene.LEAST, 0, "home", 0);
        FosterSons x = Scene.FULL.make();
        for (int s = 0; s < 5; s++) {
            EDGE.call(x, 1, "home", s);
            EDGE.call(x, 4 - s, "many", 3);
            EDGE.call(x, 0, "home", s);
            EDGE.call(x, NONE, "stake", s, 5);
        }
    }

    private static void stakeRefused() {
        EDGE.sentence(8, "UNKNOWN; OUTSIDE");
        EDGE.beyondSons(0, "stake", 0, 0);
        EDGE.beyondSons(0, "stake", 0, 6);
        EDGE.beyondYears(1, "stake", 0, 0);
        EDGE.refused(Scene.TREATY, OUTSIDE, "stake", 3, 4);
    }

    private static void stakeByThen() {
        EDGE.sentence(8, "NONE: he is not SENT by then");
        for (int year = 0; year < 4; year++) {
            EDGE.keeps(Scene.TREATY, NONE, "stake", 3, year);
            EDGE.keeps(Scene.TREATY, year < 2 ? NONE : 3, "stake", 2, year);
            EDGE.keeps(Scene.TREATY, year < 3 ? NONE : 5, "stake", 4, year);
            EDGE.keeps(Scene.TREATY, 5 - year, "stake", 0, year);
        }
        EDGE.keeps(Scene.LEAST, NONE, "stake", 0, 0);
        EDGE.keeps(Scene.FULL, NONE, "stake", 1, 4);
        EDGE.keeps(Scene.FULL, 10, "stake", 1, 5);
    }

    /** STAKE of one SON, SENT from YEAR 0 on, in every one of 6 YEARS. */
    private static String stakesOf(String son) {
        FosterSons x = Check.with("x26/000000/000000," + son);
        x.send(0, 1, 0);
        StringBuilder all = new StringBuilder();
        for (int year = 0; year < 6; year++) {
            all.append(x.stake(0, year)).append(' ');
        }
        return all.toString();
    }

    private static void stakeIsNothingAtLeast() {
        EDGE.sentence(8, "WORTH, less FOND for each YEAR that he has been away (0 at least)");
        EDGE.due("s063", stakesOf("s063"), "6 3 0 0 0 0 ");
        EDGE.due("s073", stakesOf("s073"), "7 4 1 0 0 0 ");
        EDGE.due("s093", stakesOf("s093"), "9 6 3 0 0 0 ");
        EDGE.due("s091", stakesOf("s091"), "9 8 7 6 5 4 ");
        EDGE.due("s051", stakesOf("s051"), "5 4 3 2 1 0 ");
        EDGE.due("s090", stakesOf("s090"), "9 9 9 9 9 9 ");
        EDGE.due("s003", stakesOf("s003"), "0 0 0 0 0 0 ");
    }

    private static void stakeOfHeir() {
        EDGE.sentence(8, "of an HEIR the same and 2 more");
        EDGE.due("h000", stakesOf("h000"), "2 2 2 2 2 2 ");
        EDGE.due("h003", stakesOf("h003"), "2 2 2 2 2 2 ");
        EDGE.due("h073", stakesOf("h073"), "9 6 3 2 2 2 ");
        EDGE.due("h090", stakesOf("h090"), "11 11 11 11 11 11 ");
    }

    private static void stakeOfPageIsCut() {
        EDGE.sentence(8, "of a PAGE half of what it would be of a SON (cut)");
        EDGE.due("p000", stakesOf("p000"), "0 0 0 0 0 0 ");
        EDGE.due("p010", stakesOf("p010"), "0 0 0 0 0 0 ");
        EDGE.due("p020", stakesOf("p020"), "1 1 1 1 1 1 ");
        EDGE.due("p091", stakesOf("p091"), "4 4 3 3 2 2 ");
        EDGE.due("p083", stakesOf("p083"), "4 2 1 0 0 0 ");
        EDGE.due("p043", stakesOf("p043"), "2 0 0 0 0 0 ");
    }

    private static void stakesEdges() {
        EDGE.sentence(9, "UNKNOWN; OUTSIDE");
        EDGE.beyondCourts(0, "stakes", 0, 0);
        EDGE.beyondCourts(0, "stakes", 0, 6);
        EDGE.beyondYears(1, "stakes", 1, 0);
    }

    private static void stakesOfNobodyAndOfAll() {
        EDGE.sentence(9, "STAKES: of all its SONS who are SENT by then, together");
        EDGE.keeps(Scene.LEAST, 0, "stakes", 0, 0);
        EDGE.keeps(Scene.LEAST, 0, "stakes", 1, 0);
        int[][] want = {{5, 4, 3, 7}, {0, 8, 6, 4}, {0, 0, 3, 3}};
        for (int c = 0; c < 3; c++) {
            for (int year = 0; year < 4; year++) {
                EDGE.keeps(Scene.TREATY, want[c][year], "stakes", c, year);
            }
        }
        FosterSons x = Check.with("x21/9/9,h190,h190,h190,h190,h190");
        for (int s = 0; s < 5; s++) {
            EDGE.call(x, 11 * s, "stakes", 1, 0);
            x.send(s, 0, 0);
        }
        EDGE.call(x, 55, "stakes", 1, 0);
        EDGE.call(x, 0, "stakes", 0, 0);
    }

    private static void temptedRefused() {
        EDGE.sentence(10, "OUTSIDE");
        EDGE.beyondYears(0, "tempted", 0);
        EDGE.sentence(10, "STATE: there is no TREATY (ahead of OUTSIDE)");
        for (int year : new int[] {MIN, -1, 0, 5, 6, MAX}) {
            EDGE.refused(Scene.NEW, STATE, "tempted", year);
            EDGE.refused(Scene.ROWS, STATE, "tempted", year);
        }
    }

    private static void temptedIfMore() {
        EDGE.sentence(10, "TEMPTED, if its GAIN is more than its STAKES");
        int[] want = {2, 4, 1, 6};
        for (int year = 0; year < 4; year++) {
            EDGE.keeps(Scene.TREATY, want[year], "tempted", year);
        }
        EDGE.keeps(Scene.LEAST, 0, "tempted", 0);
        FosterSons x = Check.with("x41/9/9/9/9,s090,s190,s290,s390");
        EDGE.call(x, 15, "tempted", 0);
        for (int s = 0; s < 4; s++) {
            x.send(s, s == 0 ? 1 : 0, 0);
            EDGE.call(x, 14 << s & 15, "tempted", 0);
        }
        x = Check.with("x21/4/4,s040");
        x.send(0, 1, 0);
        EDGE.call(x, 2, "tempted", 0);
        x.tempt(0, 0, 5);
        EDGE.call(x, 3, "tempted", 0);
        x.tempt(0, 0, 3);
        EDGE.call(x, 2, "tempted", 0);
    }

    private static void brokenRefused() {
        EDGE.sentence(11, "OUTSIDE, ahead of STATE as its line tells them");
        for (int what : Edge.beyond(0, 1)) {
            EDGE.refused(Scene.TREATY, OUTSIDE, "broken", what);
            EDGE.refused(Scene.NEW, OUTSIDE, "broken", what);
            EDGE.refused(Scene.ROWS, OUTSIDE, "broken", what);
        }
        EDGE.sentence(11, "STATE: there is no TREATY");
        for (int what = 0; what < 2; what++) {
            EDGE.refused(Scene.NEW, STATE, "broken", what);
            EDGE.refused(Scene.ROWS, STATE, "broken", what);
        }
    }

    private static void brokenFirstYearLeastCourt() {
        EDGE.sentence(11, "BREAK: the first YEAR, by the least COURT; NONE: never");
        EDGE.keeps(Scene.TREATY, 0, "broken", 0);
        EDGE.keeps(Scene.TREATY, 1, "broken", 1);
        EDGE.keeps(Scene.LEAST, NONE, "broken", 0);
        EDGE.keeps(Scene.LEAST, NONE, "broken", 1);
        breaks("x46/000000/000000/000000/000001,s000", 5, 3);
        breaks("x46/000001/000000/000000/000010,s000", 4, 3);
        breaks("x46/000001/000001/000001/000001,s000", 5, 0);
        breaks("x46/000001/000001/100000/100000,s000", 0, 2);
        breaks("x46/000000/000000/000000/000000,s000", NONE, NONE);
        FosterSons x = Check.with("x22/55/00,s051");
        x.send(0, 1, 0);
        EDGE.call(x, 1, "broken", 0);
        x.send(0, 1, 1);
        EDGE.call(x, 0, "broken", 0);
        x.tempt(0, 0, 0);
        EDGE.call(x, NONE, "broken", 0);
        EDGE.call(x, NONE, "broken", 1);
    }

    private static void breaks(String text, int year, int court) {
        FosterSons x = Check.with(text);
        EDGE.due("broken(0) of " + text, x.broken(0), year);
        EDGE.due("broken(1) of " + text, x.broken(1), court);
    }

    private static void planUnknownSheet() {
        EDGE.sentence(12, "UNKNOWN: SHEET");
        for (int k : Edge.beyond(0, 3)) {
            EDGE.refused(Scene.TREATY, UNKNOWN, "plan", k, 1, 0, 5, 0);
            EDGE.refused(Scene.NEW, UNKNOWN, "plan", k, 1, 0, 5, 0);
        }
    }

    private static void planOutside() {
        EDGE.sentence(12, "OUTSIDE: lane, what (0 .. 2, 10 .. 13)");
        for (int lane : Edge.beyond(0, 2)) {
            EDGE.refused(Scene.TREATY, OUTSIDE, "plan", 1, lane, 0, 5, 0);
        }
        for (int what : new int[] {MIN, -10, -1, 3, 4, 9, 14, MAX}) {
            EDGE.refused(Scene.TREATY, OUTSIDE, "plan", 1, 1, 0, 5, what);
        }
    }

    private static void planRefusalsInOrder() {
        EDGE.sentence(12, "UNKNOWN ahead of OUTSIDE ahead of FAULTS ahead of STATE ahead of OUTSIDE");
        EDGE.refused(Scene.TREATY, UNKNOWN, "plan", 4, 3, -1, -1, 3);
        EDGE.refused(Scene.TREATY, UNKNOWN, "plan", -1, 1, 0, 5, 14);
        EDGE.refused(Scene.TREATY, OUTSIDE, "plan", 3, 3, 0, 5, 0);
        EDGE.refused(Scene.TREATY, OUTSIDE, "plan", 3, 1, 0, 5, 3);
        EDGE.refused(Scene.TREATY, OUTSIDE, "plan", 1, 1, -1, -1, 14);
        EDGE.refused(Scene.NEW, OUTSIDE, "plan", 0, 0, 0, 0, 9);
        EDGE.faulted(Scene.NEW, Edge.NULL, "plan", 0, 0, 0, 0, 0);
        EDGE.faulted(Scene.ROWS, Edge.CAST, "plan", 1, 0, 0, 5, 0);
        EDGE.faulted(Scene.ROWS, Edge.SIZE, "plan", 1, 1, 0, -1, 0);
        EDGE.faulted(Scene.ROWS, Edge.INDEX, "plan", 1, 1, 0, 6, 0);
        EDGE.refused(Scene.ROWS, STATE, "plan", 1, 1, 0, 4, 0);
        EDGE.refused(Scene.ROWS, STATE, "plan", 2, 2, 0, 5, 13);
        EDGE.faulted(Scene.TREATY, Edge.INDEX, "plan", 1, 1, 0, 6, 0);
        EDGE.faulted(Scene.TREATY, Edge.SIZE, "plan", 1, 1, 0, -5, 0);
    }

    private static void planFaultsInOrder() {
        EDGE.sentence(12, "FAULTS CAST, NULL, SIZE, INDEX: the first that is come to");
        EDGE.faulted(Scene.TREATY, Edge.CAST, "plan", 1, 0, 0, 5, 0);
        EDGE.faulted(Scene.TREATY, Edge.CAST, "plan", 1, 2, 0, -1, 0);
        EDGE.faulted(Scene.TREATY, Edge.CAST, "plan", 2, 1, -1, 5, 0);
        EDGE.faulted(Scene.TREATY, Edge.NULL, "plan", 3, 0, 0, -1, 0);
        EDGE.faulted(Scene.TREATY, Edge.NULL, "plan", 3, 1, -1, 5, 0);
        EDGE.faulted(Scene.TREATY, Edge.NULL, "plan", 3, 2, 0, 5, 0);
        EDGE.faulted(Scene.TREATY, Edge.SIZE, "plan", 1, 1, -1, -1, 0);
        EDGE.faulted(Scene.TREATY, Edge.SIZE, "plan", 1, 1, 6, MIN, 0);
    }

    private static void planIndex() {
        EDGE.sentence(12, "INDEX, also where i is not 0 .. how many there are, if none is taken, too");
        int[][] wrong = {{-1, 5}, {1, 5}, {0, 6}, {5, 1}, {-1, 0}, {6, 0}, {MIN, 0}, {MAX, 0}, {1, MAX}, {MAX, 5},
            {MAX, MAX}, {MIN, 5}};
        for (int[] w : wrong) {
            EDGE.faulted(Scene.TREATY, Edge.INDEX, "plan", 1, 1, w[0], w[1], 0);
        }
        EDGE.faulted(Scene.FULL, Edge.INDEX, "plan", 1, 1, 56, 5, 2);
        EDGE.refused(Scene.FULL, OUTSIDE, "plan", 1, 1, 55, 5, 2);
        EDGE.keeps(Scene.FULL, 5, "plan", 1, 1, 54, 5, 2);
        EDGE.refused(Scene.TREATY, OUTSIDE, "plan", 1, 1, 0, 0, 0);
        EDGE.refused(Scene.TREATY, OUTSIDE, "plan", 1, 1, 5, 0, 0);
    }

    private static void planState() {
        EDGE.sentence(12, "STATE: there is no TREATY");
        for (int what : new int[] {0, 1, 2, 10, 13}) {
            EDGE.refused(Scene.ROWS, STATE, "plan", 1, 1, 0, 5, what);
        }
        EDGE.refused(Scene.ROWS, STATE, "plan", 1, 1, 5, 0, 0);
        FosterSons x = new FosterSons();
        x.sheet(0, 0, 0);
        EDGE.call(x, STATE, 0, "plan", 0, 0, 0, 0, 0);
    }

    private static void planAsManyAsSons() {
        EDGE.sentence(12, "OUTSIDE: n is not how many SONS there are");
        EDGE.refused(Scene.TREATY, OUTSIDE, "plan", 1, 1, 0, 4, 0);
        EDGE.refused(Scene.TREATY, OUTSIDE, "plan", 2, 2, 1, 6, 0);
        EDGE.refused(Scene.TREATY, OUTSIDE, "plan", 2, 2, 0, 60, 2);
        EDGE.keeps(Scene.TREATY, 5, "plan", 2, 2, 1, 5, 2);
        FosterSons x = Check.with(Scene.LEAST_TEXT);
        Check.lay(x, 1, 1, 0, 1);
        EDGE.call(x, 1, 0, "plan", 1, 1, 0, 1, 2);
        EDGE.call(x, 0, 0, "plan", 1, 1, 1, 1, 2);
        EDGE.call(x, OUTSIDE, 0, "plan", 1, 1, 0, 2, 2);
        EDGE.call(x, OUTSIDE, 0, "plan", 1, 1, 0, 0, 2);
        // Behind a TREATY of five SONS who were all tried.
        FosterSons y = Scene.FULL.make();
        EDGE.call(y, 5, "plan", 1, 1, 0, 5, 2);
        Check.take(y, Scene.LEAST_TEXT);
        EDGE.call(y, 1, "plan", 1, 1, 0, 1, 2);
        EDGE.call(y, OUTSIDE, "plan", 1, 1, 0, 5, 2);
    }

    private static void planCells() {
        EDGE.sentence(12, "OUTSIDE: a cell is not 0 .. how many YEARS there are");
        for (int s = 0; s < 5; s++) {
            for (int from : new int[] {MIN, -1, 0, 3, 4, 5, MAX}) {
                FosterSons x = Check.with(Scene.TEXT);
                Check.lay(x, 2, 2, 4, 4, 4, 4, 4);
                x.put(2, s, from);
                x.sheet(0, 0, -1);
                long want = from < 0 || from > 4 ? OUTSIDE : from == 4 ? 0 : 1;
                EDGE.due("cell " + s + " of " + from, x.plan(2, 2, 0, 5, 2), want);
                EDGE.due("fault() behind it", x.fault(), 0);
                EDGE.due("no such COURT", x.plan(2, 2, 0, 5, 13), want < 0 ? OUTSIDE : NONE);
            }
        }
        EDGE.refused(Scene.TREATY, OUTSIDE, "plan", 2, 2, 0, 5, 2);
        EDGE.refused(Scene.TREATY, OUTSIDE, "plan", 2, 2, 55, 5, 13);
        FosterSons x = Check.with(Scene.LEAST_TEXT);
        Check.lay(x, 0, 0, 2);
        EDGE.call(x, OUTSIDE, 0, "plan", 0, 0, 0, 1, 2);
        x = Check.with(Scene.GREATEST_TEXT);
        Check.lay(x, 0, 0, 6, 6, 6, 6, 6, 7);
        EDGE.call(x, 0, 0, "plan", 0, 0, 0, 5, 2);
        EDGE.call(x, OUTSIDE, 0, "plan", 0, 0, 1, 5, 2);
    }

    private static void planCellsAreCut() {
        EDGE.sentence(12, "what comes to a cell is cut to its LANE");
        int[][] puts = {{256, 257, 128}, {65536, 65537, 32768}, {0, 1, 65536}};
        for (int lane = 0; lane < 3; lane++) {
            FosterSons x = Check.with(Scene.LEAST_TEXT);
            Check.lay(x, 1, lane, puts[lane]);
            EDGE.call(x, 1, 0, "plan", 1, lane, 0, 1, 2);
            EDGE.call(x, 0, 0, "plan", 1, lane, 1, 1, 2);
            EDGE.call(x, OUTSIDE, 0, "plan", 1, lane, 2, 1, 2);
        }
    }

    private static void planAnswers() {
        EDGE.sentence(12, "the YEAR (0; NONE), the COURT (1; NONE), how many (2), STAKES (10 and c; NONE)");
        int[][] want = {{0, 0}, {1, 1}, {2, 4}, {10, 7}, {11, 4}, {12, 3}, {13, NONE}};
        for (int[] w : want) {
            EDGE.keeps(Scene.TREATY, w[1], "plan", 1, 1, 0, 5, w[0]);
        }
        FosterSons x = Check.with(Scene.LEAST_TEXT);
        Check.lay(x, 1, 1, 0);
        EDGE.call(x, NONE, "plan", 1, 1, 0, 1, 0);
        EDGE.call(x, NONE, "plan", 1, 1, 0, 1, 1);
        EDGE.call(x, 0, "plan", 1, 1, 0, 1, 10);
        EDGE.call(x, 0, "plan", 1, 1, 0, 1, 11);
        EDGE.call(x, NONE, "plan", 1, 1, 0, 1, 12);
        EDGE.call(x, NONE, "plan", 1, 1, 0, 1, 13);
    }

    private static void planOfNobodyAndOfAll() {
        EDGE.sentence(12, "the YEAR from which on he is SENT, or how many YEARS there are (he is not)");
        FosterSons x = Check.with("x46/100000/000000/000000/000001,s391,s090");
        x.send(0, 0, 0);
        x.send(1, 1, 0);
        Check.lay(x, 1, 1, 6, 0, 6, 5, 0, 4);
        EDGE.call(x, 5, "plan", 1, 1, 0, 2, 0);
        EDGE.call(x, 3, "plan", 1, 1, 0, 2, 1);
        EDGE.call(x, 0, "plan", 1, 1, 0, 2, 13);
        EDGE.call(x, 9, "plan", 1, 1, 0, 2, 10);
        EDGE.call(x, 1, "plan", 1, 1, 0, 2, 2);
        EDGE.call(x, NONE, "plan", 1, 1, 3, 2, 0);
        EDGE.call(x, NONE, "plan", 1, 1, 3, 2, 1);
        EDGE.call(x, 9, "plan", 1, 1, 3, 2, 13);
        EDGE.call(x, 2, "plan", 1, 1, 3, 2, 2);
        EDGE.call(x, 0, "plan", 1, 1, 4, 2, 0);
        EDGE.call(x, 4, "plan", 1, 1, 4, 2, 13);
        EDGE.call(x, 0, "plan", 1, 1, 2, 2, 1);
        EDGE.call(x, 1, "plan", 1, 1, 2, 2, 2);
    }
}
