/** The edges of promises 13 to 15. */
public final class FewestEdgeTest {
    private static final Edge EDGE = new Edge("FewestEdgeTest");
    private static final int STATE = FosterSons.STATE, NONE = FosterSons.NONE;

    public static void main(String[] args) {
        leastRefused();
        leastOfNobody();
        leastOfOneAndOfAll();
        leastOfSeveral();
        leastIsNone();
        leastAsIfNothingWere();
        holeRefused();
        holeFirstYear();
        holeThoughAllWereSent();
        whenRefused();
        whenEarliestAndLatest();
        whenHeNeedNotBe();
        whenByNone();
        whenOthersAreSent();
        whenOfHisFathersCourtAlone();
        EDGE.end(13, 15);
    }

    private static void leastRefused() {
        EDGE.sentence(13, "STATE: there is no TREATY");
        EDGE.refused(Scene.NEW, STATE, "least");
        EDGE.refused(Scene.ROWS, STATE, "least");
    }

    private static void least(String text, int want) {
        EDGE.due("least() of " + text, Check.with(text).least(), want);
    }

    private static void leastOfNobody() {
        EDGE.sentence(13, "the fewest SONS: none");
        EDGE.keeps(Scene.LEAST, 0, "least");
        least("x46/000000/000000/000000/000000,h090,h190,h290,h390,h090", 0);
    }

    private static void leastOfOneAndOfAll() {
        EDGE.sentence(13, "the fewest SONS: one, all");
        least("x21/1/0,s010", 1);
        least("x21/1/0,s100,s100,s100,s100,s010", 16);
        least("x21/5/0,s010,s010,s010,s010,s010", 31);
        least("x21/4/0,s010,s010,s010,s010,s010", 15);
        least("x26/000009/000000,s091,s090", 2);
        least("x26/000004/000000,s091,s090", 1);
        least("x41/1/1/1/1,s010,s110,s210,s310", 15);
    }

    private static void leastOfSeveral() {
        EDGE.sentence(13, "the fewest: of several the least");
        least("x21/3/0,s010,s010,s010,s020,s030", 16);
        least("x21/3/0,s010,s010,s010,s030,s030", 8);
        least("x21/3/0,s010,s010,s010,s020,s020", 9);
        least("x21/3/0,s020,s010,s020,s020,s010", 3);
        least("x21/2/0,s010,s010,s010,s010,s010", 3);
        least("x21/2/1,s010,s110,s010,s110,s010", 7);
    }

    private static void leastIsNone() {
        EDGE.sentence(13, "NONE: there is none");
        least("x21/6/0,s010,s010,s010,s010,s010", NONE);
        least("x21/0/1,s090,s090", NONE);
        least("x26/000005/000000,s091", NONE);
        least("x41/0/0/0/1,s090,s190,s290", NONE);
        EDGE.keeps(Scene.FULL, NONE, "least");
        EDGE.keeps(Scene.TREATY, NONE, "least");
    }

    private static void leastAsIfNothingWere() {
        EDGE.sentence(13, "from YEAR 0 on (as if nothing were now)");
        FosterSons x = Check.with("x22/11/00,s010,s010");
        x.send(1, 1, 0);
        EDGE.call(x, 1, "least");
        EDGE.call(x, 1, "many", 3);
        EDGE.call(x, 0, "ofSon", 1, 5);
        x.send(0, 1, 1);
        EDGE.call(x, 1, "least");
        EDGE.call(x, 1, "ofSon", 0, 5);
    }

    private static void holeRefused() {
        EDGE.sentence(14, "UNKNOWN");
        EDGE.beyondCourts(0, "hole", 0);
    }

    private static void hole(String text, int c, int want) {
        EDGE.due("hole(" + c + ") of " + text, Check.with(text).hole(c), want);
    }

    private static void holeFirstYear() {
        EDGE.sentence(14, "the first YEAR in which it would be TEMPTED; NONE");
        hole("x26/111111/000000,s100", 0, 0);
        hole("x26/000001/000000,s100", 0, 5);
        hole("x26/000101/000000,s100", 0, 3);
        hole("x26/000000/000000,s100", 0, NONE);
        hole("x41/0/0/0/1,s000", 3, 0);
        hole("x41/0/0/0/1,s000", 2, NONE);
        EDGE.keeps(Scene.LEAST, NONE, "hole", 0);
        EDGE.keeps(Scene.LEAST, NONE, "hole", 1);
    }

    private static void holeThoughAllWereSent() {
        EDGE.sentence(14, "though all its SONS were SENT from YEAR 0 on");
        hole("x26/555555/000000,s051", 0, 1);
        hole("x26/555555/000000,s051,s010", 0, 2);
        hole("x26/555555/000000,s051,s110", 0, 1);
        hole("x26/555555/000000,s051,s050", 0, NONE);
        hole("x26/999999/000000,s010,s020,s020,s020,s020", 0, NONE);
        hole("x26/999999/000000,s010,s020,s020,s020,s010", 0, 0);
        hole("x22/60/00,s050", 0, 0);
        hole("x22/50/00,s050", 0, NONE);
        // Its SON, SENT from YEAR 1 on, holds YEAR 2; from YEAR 0 on he would be too fond by then.
        EDGE.keeps(Scene.TREATY, 2, "hole", 1);
        EDGE.keeps(Scene.TREATY, NONE, "hole", 0);
        EDGE.keeps(Scene.TREATY, 3, "hole", 2);
    }

    private static void whenRefused() {
        EDGE.sentence(15, "UNKNOWN");
        EDGE.beyondSons(0, "when", 0);
    }

    private static void when(String text, int s, int want) {
        EDGE.due("when(" + s + ") of " + text, Check.with(text).when(s), want);
    }

    private static void whenEarliestAndLatest() {
        EDGE.sentence(15, "the latest YEAR from which on he may be SENT");
        when("x26/100000/000000,s010", 0, 0);
        when("x26/010000/000000,s010", 0, 1);
        when("x26/000010/000000,s010", 0, 4);
        when("x26/000001/000000,s010", 0, 5);
        when("x26/000011/000000,s010", 0, 4);
        when("x21/1/0,s010", 0, 0);
        // Too early is wrong, too: in YEAR 5 he must not be fond yet.
        when("x26/000109/000000,s093", 0, NONE);
        when("x26/000009/000000,s093", 0, 5);
        when("x26/000013/000000,s093", 0, 4);
        when("x26/000103/000000,s093", 0, 3);
    }

    private static void whenHeNeedNotBe() {
        EDGE.sentence(15, "how many YEARS there are: he need not be");
        when("x26/000000/999999,s000", 0, 6);
        when("x21/0/9,s000", 0, 1);
        when("x26/999999/000000,s000,s090", 0, 6);
        when("x26/999999/000000,s000,s090", 1, 0);
        EDGE.keeps(Scene.LEAST, 1, "when", 0);
        EDGE.keeps(Scene.TREATY, 4, "when", 3);
    }

    private static void whenByNone() {
        EDGE.sentence(15, "NONE: by none");
        when("x26/000002/000000,s010", 0, NONE);
        when("x26/200000/000000,s010", 0, NONE);
        when("x26/100001/000000,s011", 0, NONE);
        when("x21/1/0,s000", 0, NONE);
        EDGE.keeps(Scene.TREATY, NONE, "when", 1);
    }

    private static void whenOthersAreSent() {
        EDGE.sentence(15, "as if all others of his father's COURT were SENT from YEAR 0 on");
        when("x23/202/000,s010,s011", 0, NONE);
        when("x23/201/000,s010,s011", 0, 0);
        when("x23/211/000,s010,s011", 1, 0);
        when("x23/012/000,s010,s011", 1, 2);
        when("x23/021/000,s010,s011", 1, 1);
        when("x23/020/000,s010,s110", 0, NONE);
        FosterSons x = Check.with("x23/020/000,s010,s010");
        EDGE.call(x, 1, "when", 0);
        x.send(0, 1, 2);
        x.send(1, 1, 2);
        EDGE.call(x, 1, "when", 0);
        EDGE.call(x, 2, "ofSon", 0, 5);
        EDGE.call(x, 2, "ofSon", 1, 5);
    }

    private static void whenOfHisFathersCourtAlone() {
        EDGE.sentence(15, "so that his father's COURT is never TEMPTED");
        when("x22/00/99,s010", 0, 2);
        when("x22/99/01,s110", 0, 1);
        when("x22/99/10,s110", 0, 0);
        when("x42/99/99/99/01,s010,s310", 1, 1);
    }
}
