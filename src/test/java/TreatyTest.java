/** Promises 1 to 5: a new object, treaty, ofSon, gain, tempt. */
public final class TreatyTest {
    private static final Check CHECK = new Check("TreatyTest");
    private static final String FIVE = "x34/3142/2057/0110,s051,h162,p270,s083,h030";

    public static void main(String[] args) {
        newObject();
        textsThatAreTaken();
        firstFaults();
        everyPrefixEndsTooSoon();
        refusalsAndFaultsOfTreaty();
        placesAreOfTheText();
        faultyTextChangesNothing();
        takenTextMakesAllAnew();
        lesserTreatyForgetsTheGreater();
        sons();
        gains();
        CHECK.end();
    }

    private static void newObject() {
        FosterSons x = new FosterSons();
        for (int what = 0; what <= 4; what++) {
            CHECK.due("new many(" + what + ")", x.many(what), 0);
        }
        for (int k = 0; k < 4; k++) {
            CHECK.due("new lose(" + k + ")", x.lose(k), 0);
        }
        CHECK.due("new fault", x.fault(), 0);
        CHECK.due("new trace", x.trace(), 0);
        CHECK.due("new tempted", x.tempted(0), FosterSons.STATE);
    }

    private static void textsThatAreTaken() {
        taken("x21/0/0,s000", 1, 2, 1);
        taken("x21/9/9,p193", 1, 2, 1);
        taken(FIVE, 5, 3, 4);
        taken("x46/123456/654321/000000/999999,s391,h282,p173,s064,".substring(0, 46), 3, 4, 6);
        taken("x46/123456/654321/000000/999999,s391,h282,p173,s063,h393", 5, 4, 6);
    }

    private static void taken(String text, int sons, int courts, int years) {
        for (int lane = 0; lane < 3; lane++) {
            FosterSons x = new FosterSons();
            Check.lay(x, lane, lane, Check.codes(text));
            CHECK.due("treaty " + text, x.treaty(lane, lane, 0, text.length()), sons);
            CHECK.due("fault " + text, x.fault(), 0);
            CHECK.due("sons " + text, x.many(0), sons);
            CHECK.due("courts " + text, x.many(1), courts);
            CHECK.due("years " + text, x.many(2), years);
        }
    }

    private static void firstFaults() {
        faultAt("", 0);
        faultAt("y21/0/0,s000", 0);
        faultAt("X21/0/0,s000", 0);
        faultAt("x11/0/0,s000", 1);
        faultAt("x51/0/0,s000", 1);
        faultAt("x20/0/0,s000", 2);
        faultAt("x27/0/0,s000", 2);
        faultAt("x21,0/0,s000", 3);
        faultAt("x21//0,s000", 4);
        faultAt("x21/:/0,s000", 4);
        faultAt("x21/00/0,s000", 5);
        faultAt("x22/0/00,s000", 5);
        faultAt("x21/0/0/0,s000", 7);
        faultAt("x31/0/0,s000", 7);
        faultAt("x21/0/0,q000", 8);
        faultAt("x21/0/0,S000", 8);
        faultAt("x21/0/0,,000", 8);
        faultAt("x21/0/0,s200", 9);
        faultAt("x21/0/0,s/00", 9);
        faultAt("x31/0/0/0,s300", 11);
        faultAt("x21/0/0,s0a0", 10);
        faultAt("x21/0/0,s004", 11);
        faultAt("x21/0/0,s0000", 12);
        faultAt("x21/0/0,s000/", 12);
        faultAt("x21/0/0,s000,s001,h002,p003,s100,s101", 32);
        faultAt("x21/0/0,s000,s001,h002,p003,s100,", 32);
        faultAt("x21/0/0,s000,s001,h002,p003,s100x", 32);
    }

    private static void faultAt(String text, int place) {
        FosterSons x = new FosterSons();
        CHECK.due("treaty '" + text + "'", Check.take(x, text), -100 - place);
        CHECK.due("fault '" + text + "'", x.fault(), 0);
        CHECK.due("no treaty '" + text + "'", x.many(1), 0);
    }

    private static void everyPrefixEndsTooSoon() {
        for (int n = 0; n < FIVE.length(); n++) {
            boolean whole = n >= 23 && (n - 18) % 5 == 0;
            int want = whole ? (n - 18) / 5 : -100 - n;
            CHECK.due("prefix of " + n, Check.take(new FosterSons(), FIVE.substring(0, n)), want);
        }
    }

    private static void refusalsAndFaultsOfTreaty() {
        FosterSons x = Check.with("x21/0/0,s000");
        treatyFaults(x, -1, 9, 0, 12, FosterSons.UNKNOWN, 0);
        treatyFaults(x, 4, 0, 0, 12, FosterSons.UNKNOWN, 0);
        treatyFaults(x, 0, -1, 0, 12, FosterSons.OUTSIDE, 0);
        treatyFaults(x, 1, 3, 0, -1, FosterSons.OUTSIDE, 0);
        treatyFaults(x, 0, 1, 99, -1, -12, 2);
        treatyFaults(x, 1, 1, 99, -1, -11, 1);
        treatyFaults(x, 0, 0, 99, -1, -14, 4);
        treatyFaults(x, 0, 0, -1, 0, -13, 3);
        treatyFaults(x, 0, 0, 13, 0, -13, 3);
        treatyFaults(x, 0, 0, 0, 13, -13, 3);
        treatyFaults(x, 0, 0, 1, 12, -13, 3);
        treatyFaults(x, 0, 0, 2, Integer.MAX_VALUE, -13, 3);
        treatyFaults(x, 0, 0, Integer.MAX_VALUE, 1, -13, 3);
        treatyFaults(x, 0, 0, Integer.MIN_VALUE, Integer.MIN_VALUE, -14, 4);
        treatyFaults(x, 0, 0, 12, 0, -100, 0);
        Check.lay(x, 2, 2, new int[60]);
        treatyFaults(x, 2, 2, 0, 60, -100, 0);
        treatyFaults(x, 2, 2, 0, 61, -13, 3);
        CHECK.due("still there", x.many(0), 1);
    }

    private static void treatyFaults(FosterSons x, int k, int lane, int i, int n, int want, int fault) {
        String call = "treaty(" + k + ", " + lane + ", " + i + ", " + n + ")";
        CHECK.due(call, x.treaty(k, lane, i, n), want);
        CHECK.due("fault after " + call, x.fault(), fault);
    }

    private static void placesAreOfTheText() {
        FosterSons x = new FosterSons();
        Check.lay(x, 2, 1, Check.codes("??x21/5/0,s000??"));
        CHECK.due("from 2 on", x.treaty(2, 1, 2, 12), 1);
        CHECK.due("its gain", x.gain(0, 0), 5);
        CHECK.due("one more", x.treaty(2, 1, 2, 13), -112);
        CHECK.due("from 1 on", x.treaty(2, 1, 1, 12), -100);
    }

    private static void faultyTextChangesNothing() {
        FosterSons x = Check.with(FIVE);
        x.send(0, 1, 2);
        x.reading(0, 0, true);
        CHECK.due("bad text", Check.take(x, "x46/000000/000000/000000/00000a"), -130);
        CHECK.due("gain", x.gain(0, 0), 3);
        CHECK.due("courts", x.many(1), 3);
        CHECK.due("years", x.many(2), 4);
        CHECK.due("sons", x.many(0), 5);
        CHECK.due("sent", x.many(3), 1);
        CHECK.due("readings", x.many(4), 1);
        CHECK.due("worth", x.ofSon(3, 2), 8);
        CHECK.due("bad sixth", Check.take(x, "x21/0/0,s111,s111,s111,s111,s111,"), -132);
        CHECK.due("worth after it", x.ofSon(3, 2), 8);
        CHECK.due("father after it", x.ofSon(0, 1), 0);
    }

    private static void takenTextMakesAllAnew() {
        FosterSons x = Check.with(FIVE);
        x.send(0, 1, 2);
        x.reading(0, 0, false);
        x.tell(0);
        CHECK.due("taken", Check.take(x, "x21/7/0,h193,s000"), 2);
        CHECK.due("sent", x.many(3), 0);
        CHECK.due("readings", x.many(4), 0);
        CHECK.due("sent to", x.ofSon(0, 4), FosterSons.NONE);
        CHECK.due("gain", x.gain(0, 0), 7);
        CHECK.due("old year", x.gain(0, 1), FosterSons.OUTSIDE);
        CHECK.due("old court", x.gain(2, 0), FosterSons.UNKNOWN);
        CHECK.due("old son", x.ofSon(2, 0), FosterSons.UNKNOWN);
        CHECK.due("trace stays", x.trace(), 1);
        CHECK.due("the sheet stays", x.cell(0, 0, 0), 'x');
        CHECK.due("the lost sheet's treaty", x.lose(0), 1);
        CHECK.due("stays", x.gain(0, 0), 7);
    }

    private static void lesserTreatyForgetsTheGreater() {
        FosterSons x = Check.with("x46/999999/999999/999999/999999,s090,s190,s290,s390,s090");
        for (int again = 0; again < 2; again++) {
            CHECK.due("taken", Check.take(x, "x21/0/0,s190"), 1);
            CHECK.due("broken", x.broken(0), FosterSons.NONE);
            CHECK.due("tempted", x.tempted(0), 0);
            CHECK.due("hole", x.hole(0), FosterSons.NONE);
            CHECK.due("least", x.least(), 0);
            CHECK.due("when", x.when(0), 1);
            CHECK.due("odds", x.odds(0, 0), 0);
            CHECK.due("sons", x.many(0), 1);
        }
    }

    private static void sons() {
        FosterSons x = Check.with(FIVE);
        x.send(2, 1, 3);
        int[][] want = {{0, 0, 5, 1, -9, -9}, {1, 1, 6, 2, -9, -9}, {2, 2, 7, 0, 1, 3}, {0, 0, 8, 3, -9, -9},
            {1, 0, 3, 0, -9, -9}};
        for (int s = 0; s < 5; s++) {
            for (int what = 0; what < 6; what++) {
                CHECK.due("ofSon(" + s + ", " + what + ")", x.ofSon(s, what), want[s][what]);
            }
        }
        CHECK.due("ofSon(0, 6)", x.ofSon(0, 6), FosterSons.OUTSIDE);
        CHECK.due("ofSon(0, -1)", x.ofSon(0, -1), FosterSons.OUTSIDE);
        CHECK.due("ofSon(5, 6)", x.ofSon(5, 6), FosterSons.UNKNOWN);
        CHECK.due("ofSon(-1, 0)", x.ofSon(-1, 0), FosterSons.UNKNOWN);
    }

    private static void gains() {
        FosterSons x = Check.with(FIVE);
        StringBuilder all = new StringBuilder();
        for (int c = 0; c < 3; c++) {
            for (int year = 0; year < 4; year++) {
                all.append(x.gain(c, year));
            }
        }
        CHECK.due("all gains", all.toString(), "314220570110");
        CHECK.due("gain(3, 4)", x.gain(3, 4), FosterSons.UNKNOWN);
        CHECK.due("gain(-1, 0)", x.gain(-1, 0), FosterSons.UNKNOWN);
        CHECK.due("gain(2, 4)", x.gain(2, 4), FosterSons.OUTSIDE);
        CHECK.due("gain(2, -1)", x.gain(2, -1), FosterSons.OUTSIDE);
        CHECK.due("tempt", x.tempt(1, 3, 9), 7);
        CHECK.due("tempt again", x.tempt(1, 3, 0), 9);
        CHECK.due("tempted", x.gain(1, 3), 0);
        CHECK.due("tempt(3, 4, 10)", x.tempt(3, 4, 10), FosterSons.UNKNOWN);
        CHECK.due("tempt(-1, 0, 0)", x.tempt(-1, 0, 0), FosterSons.UNKNOWN);
        CHECK.due("tempt(0, 4, 0)", x.tempt(0, 4, 0), FosterSons.OUTSIDE);
        CHECK.due("tempt(0, -1, 0)", x.tempt(0, -1, 0), FosterSons.OUTSIDE);
        CHECK.due("tempt(0, 0, 10)", x.tempt(0, 0, 10), FosterSons.OUTSIDE);
        CHECK.due("tempt(0, 0, -1)", x.tempt(0, 0, -1), FosterSons.OUTSIDE);
        CHECK.due("untouched", x.gain(0, 0), 3);
    }
}
