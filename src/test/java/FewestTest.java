/** Promises 13 to 15: least, hole, when. */
public final class FewestTest {
    private static final Check CHECK = new Check("FewestTest");
    private static final int NONE = FosterSons.NONE;

    public static void main(String[] args) {
        leastSets();
        leastIsAsIfNothingWereSent();
        holes();
        whens();
        CHECK.end();
    }

    private static void leastSets() {
        least("x21/0/0,s090", 0);
        least("x21/5/0,s050", 1);
        least("x21/6/0,s050", NONE);
        least("x21/5/0,s050,s050,h030", 1);
        least("x21/5/0,s040,s050,h030", 2);
        least("x21/5/0,s020,s030,h030", 4);
        least("x21/7/0,s040,s030,s040,s020", 3);
        least("x21/7/0,s010,s030,s040,s040,s020", 6);
        least("x21/5/5,s050,s150,s190,h030", 3);
        least("x22/55/00,s051,s050", 2);
        least("x22/54/00,p090,s051,s050", 2);
        least("x21/9/9,p090,p090,p090,p190,p190", NONE);
        least("x21/8/8,p090,p090,p090,p190,p190", 27);
        CHECK.due("no treaty", new FosterSons().least(), FosterSons.STATE);
    }

    private static void least(String text, int want) {
        CHECK.due("least of " + text, Check.with(text).least(), want);
    }

    private static void leastIsAsIfNothingWereSent() {
        FosterSons x = Check.with("x22/50/00,s050,s050");
        x.send(1, 1, 0);
        x.send(0, 1, 1);
        CHECK.due("least", x.least(), 1);
        CHECK.due("hole", x.hole(0), NONE);
        CHECK.due("when", x.when(0), 2);
        CHECK.due("he is still sent", x.ofSon(0, 5), 1);
        CHECK.due("so is he", x.ofSon(1, 5), 0);
        x.tempt(0, 1, 9);
        CHECK.due("by what was tempted", x.least(), 3);
    }

    private static void holes() {
        FosterSons x = Check.with("x33/555/123/010,s051,s100");
        CHECK.due("hole(0)", x.hole(0), 1);
        CHECK.due("hole(1)", x.hole(1), 0);
        CHECK.due("hole(2)", x.hole(2), 1);
        x.tempt(2, 1, 0);
        CHECK.due("hole(2) filled", x.hole(2), NONE);
        CHECK.due("hole(3)", x.hole(3), FosterSons.UNKNOWN);
        CHECK.due("hole(-1)", x.hole(-1), FosterSons.UNKNOWN);
        CHECK.due("hole, no treaty", new FosterSons().hole(0), FosterSons.UNKNOWN);
    }

    private static void whens() {
        when("x23/000/999,s050", 0, 3);
        when("x23/500/999,s050", 0, 0);
        when("x23/050/999,s050", 0, 1);
        when("x23/005/999,s050", 0, 2);
        when("x23/005/999,s051", 0, 2);
        when("x23/505/999,s051", 0, NONE);
        when("x23/504/999,s051", 0, NONE);
        when("x23/503/999,s051", 0, 0);
        when("x23/600/999,s050", 0, NONE);
        when("x23/700/999,s050,s020", 0, 0);
        when("x23/700/999,s050,s020", 1, 0);
        when("x23/570/999,s050,s020", 0, 0);
        when("x23/570/999,s050,s020", 1, 1);
        when("x23/570/999,s050,s120", 0, NONE);
        // Sent later, he is less fond by the last year: only the middle year will do.
        when("x23/045/000,s051", 0, NONE);
        when("x23/044/000,s051", 0, 1);
        when("x23/035/000,s051,s022", 0, NONE);
        when("x23/035/000,s051,h002", 0, 1);
        when("x23/035/000,s051,h000", 0, 1);
        FosterSons x = Check.with("x21/0/0,s000");
        CHECK.due("when(1)", x.when(1), FosterSons.UNKNOWN);
        CHECK.due("when(-1)", x.when(-1), FosterSons.UNKNOWN);
        CHECK.due("when, no treaty", new FosterSons().when(0), FosterSons.UNKNOWN);
    }

    private static void when(String text, int s, int want) {
        CHECK.due("when(" + s + ") of " + text, Check.with(text).when(s), want);
    }
}
