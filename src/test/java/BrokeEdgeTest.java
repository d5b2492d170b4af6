/** The edges of promises 16 to 21. */
public final class BrokeEdgeTest {
    private static final Edge EDGE = new Edge("BrokeEdgeTest");
    private static final int OUTSIDE = FosterSons.OUTSIDE, STATE = FosterSons.STATE, FULL = FosterSons.FULL;
    private static final int MIN = Edge.MIN, MAX = Edge.MAX;
    private static final int EVERY_WORTH = 1023, EVERY_KIND = 7, EVERY_FOND = 15;

    public static void main(String[] args) {
        readingUnknown();
        readingOutside();
        readingFull();
        readingNumbers();
        readingOfEveryCourtAndYear();
        backOutside();
        backOfNoneAndOfAll();
        backTakesTheLast();
        setsUnknown();
        setsWithoutReadings();
        worthsAtTheEdges();
        kindsAtTheEdges();
        fondnessAtTheEdges();
        inPlaceOfWhatItIsAlone();
        allReadingsAreSo();
        oddsLost();
        oddsOfNobody();
        oddsOfAll();
        oddsInLeastTerms();
        oddsByThatYear();
        oddsOfPages();
        EDGE.end(16, 21);
    }

    private static void readingUnknown() {
        EDGE.sentence(16, "UNKNOWN: COURT");
        EDGE.beyondCourts(0, "reading", 0, 0, 1);
        EDGE.beyondCourts(0, "reading", 0, 6, 0);
    }

    private static void readingOutside() {
        EDGE.sentence(16, "OUTSIDE: year, ahead of FULL");
        EDGE.beyondYears(1, "reading", 1, 0, 0);
        EDGE.beyondYears(1, "reading", 0, 0, 1);
    }

    private static void readingFull() {
        EDGE.sentence(16, "READINGS, 8 at most: FULL");
        for (int was = 0; was < 2; was++) {
            EDGE.refused(Scene.FULL, FULL, "reading", 0, 0, was);
            EDGE.refused(Scene.FULL, FULL, "reading", 3, 5, was);
        }
        FosterSons x = Scene.FULL.make();
        EDGE.call(x, 7, "back", 1);
        EDGE.call(x, 7, "reading", 0, 0, 1);
        EDGE.call(x, FULL, "reading", 0, 0, 1);
        EDGE.call(x, 8, "many", 4);
    }

    private static void readingNumbers() {
        EDGE.sentence(16, "numbered by how many there are");
        FosterSons x = Check.with(Scene.LEAST_TEXT);
        for (int r = 0; r < 8; r++) {
            EDGE.call(x, r, "many", 4);
            EDGE.call(x, r, "reading", r % 2, 0, r / 4);
        }
        EDGE.call(x, FULL, "reading", 0, 0, 0);
        EDGE.call(x, 3, "back", 5);
        EDGE.call(x, 3, "reading", 0, 0, 0);
    }

    private static void readingOfEveryCourtAndYear() {
        EDGE.sentence(16, "the least and the greatest COURT and YEAR");
        int[][] ends = {{0, 0}, {0, 5}, {3, 0}, {3, 5}};
        for (int[] e : ends) {
            FosterSons x = Check.with("x46/111111/111111/111111/111111,s000");
            EDGE.call(x, 0, "reading", e[0], e[1], 1);
            EDGE.call(x, EVERY_WORTH, "worths", 0);
            EDGE.call(x, 1, "reading", e[0], e[1], 0);
            EDGE.call(x, 0, "worths", 0);
            x.tempt(e[0], e[1], 0);
            x.back(2);
            EDGE.call(x, 0, "reading", e[0], e[1], 0);
            EDGE.call(x, EVERY_WORTH, "worths", 0);
        }
    }

    private static void backOutside() {
        EDGE.sentence(17, "k (0 .. as many as there are): OUTSIDE");
        for (int k : Edge.beyond(0, 3)) {
            EDGE.refused(Scene.TREATY, OUTSIDE, "back", k);
        }
        for (int k : Edge.beyond(0, 8)) {
            EDGE.refused(Scene.FULL, OUTSIDE, "back", k);
        }
        for (int k : Edge.beyond(0, 0)) {
            EDGE.refused(Scene.LEAST, OUTSIDE, "back", k);
            EDGE.refused(Scene.NEW, OUTSIDE, "back", k);
        }
    }

    private static void backOfNoneAndOfAll() {
        EDGE.sentence(17, "how many are left");
        EDGE.keeps(Scene.TREATY, 3, "back", 0);
        EDGE.keeps(Scene.FULL, 8, "back", 0);
        EDGE.keeps(Scene.LEAST, 0, "back", 0);
        EDGE.keeps(Scene.NEW, 0, "back", 0);
        FosterSons x = Scene.FULL.make();
        EDGE.call(x, 0, "back", 8);
        EDGE.call(x, 0, "many", 4);
        EDGE.call(x, OUTSIDE, "back", 1);
        EDGE.call(x, 0, "back", 0);
        EDGE.call(x, EVERY_WORTH, "worths", 0);
    }

    private static void backTakesTheLast() {
        EDGE.sentence(17, "the last k READINGS are taken back");
        FosterSons x = Check.with("x22/58/00,s090");
        x.send(0, 1, 0);
        x.reading(0, 0, false);
        x.reading(0, 1, true);
        EDGE.call(x, 0b0011100000, "worths", 0);
        EDGE.call(x, 1, "back", 1);
        EDGE.call(x, 0b1111100000, "worths", 0);
        x.reading(0, 1, false);
        EDGE.call(x, 0b1100000000, "worths", 0);
        EDGE.call(x, 0, "back", 2);
        EDGE.call(x, EVERY_WORTH, "worths", 0);
    }

    private static void setsUnknown() {
        String[] names = {"worths", "kinds", "fondness"};
        for (int n = 0; n < 3; n++) {
            EDGE.sentence(18 + n, "UNKNOWN");
            EDGE.beyondSons(0, names[n], 0);
        }
    }

    private static void setsWithoutReadings() {
        int[] every = {EVERY_WORTH, EVERY_KIND, EVERY_FOND};
        String[] names = {"worths", "kinds", "fondness"};
        for (int n = 0; n < 3; n++) {
            EDGE.sentence(18 + n, "no READINGS: the whole set");
            EDGE.keeps(Scene.LEAST, every[n], names[n], 0);
            FosterSons x = Scene.FULL.make();
            x.back(8);
            for (int s = 0; s < 5; s++) {
                EDGE.call(x, every[n], names[n], s);
            }
        }
    }

    /** A SON of COURT 0 who is SENT from YEAR 0 on, and a READING of that COURT. */
    private static FosterSons read(String text, int year, boolean was) {
        FosterSons x = Check.with(text);
        x.send(0, 1, 0);
        x.reading(0, year, was);
        return x;
    }

    private static void worthsAtTheEdges() {
        EDGE.sentence(18, "WORTHS: 0 .. 9, as a set");
        EDGE.call(read("x21/9/0,s000", 0, false), 1 << 9, "worths", 0);
        EDGE.call(read("x21/9/0,s000", 0, true), EVERY_WORTH - (1 << 9), "worths", 0);
        EDGE.call(read("x21/1/0,s000", 0, true), 1, "worths", 0);
        EDGE.call(read("x21/1/0,s000", 0, false), EVERY_WORTH - 1, "worths", 0);
        EDGE.call(read("x21/0/0,s000", 0, true), 0, "worths", 0);
        EDGE.call(read("x21/0/0,s000", 0, false), EVERY_WORTH, "worths", 0);
        EDGE.call(read("x21/9/0,h000", 0, false), 0b1110000000, "worths", 0);
        EDGE.call(read("x21/2/0,h000", 0, true), 0, "worths", 0);
        EDGE.call(read("x21/4/0,p000", 0, false), 0b1100000000, "worths", 0);
        EDGE.call(read("x21/5/0,p000", 0, false), 0, "worths", 0);
        EDGE.call(read("x26/000003/000000,s001", 5, false), 0b1100000000, "worths", 0);
        EDGE.call(read("x26/000001/000000,s001", 5, true), 0b0000111111, "worths", 0);
    }

    private static void kindsAtTheEdges() {
        EDGE.sentence(19, "KINDS: 0 .. 2, as a set");
        EDGE.call(read("x21/9/0,s090", 0, false), 3, "kinds", 0);
        EDGE.call(read("x21/9/0,p080", 0, false), 2, "kinds", 0);
        EDGE.call(read("x21/5/0,h090", 0, true), 4, "kinds", 0);
        EDGE.call(read("x21/4/0,h090", 0, true), 0, "kinds", 0);
        EDGE.call(read("x21/4/0,h090", 0, false), EVERY_KIND, "kinds", 0);
        EDGE.call(read("x21/2/0,p000", 0, false), 2, "kinds", 0);
        EDGE.call(read("x21/2/0,h000", 0, true), 5, "kinds", 0);
        EDGE.call(read("x21/3/0,p000", 0, true), EVERY_KIND, "kinds", 0);
        EDGE.call(read("x26/000002/000000,s093", 5, false), 2, "kinds", 0);
    }

    private static void fondnessAtTheEdges() {
        EDGE.sentence(20, "FONDNESS: 0 .. 3, as a set");
        EDGE.call(read("x26/009000/000000,s092", 2, false), 1, "fondness", 0);
        EDGE.call(read("x26/009000/000000,s092", 2, true), EVERY_FOND - 1, "fondness", 0);
        EDGE.call(read("x26/050000/000000,s080", 1, false), EVERY_FOND, "fondness", 0);
        EDGE.call(read("x26/060000/000000,s080", 1, true), 8, "fondness", 0);
        EDGE.call(read("x26/060000/000000,s080", 1, false), EVERY_FOND - 8, "fondness", 0);
        EDGE.call(read("x26/900000/000000,s090", 0, false), EVERY_FOND, "fondness", 0);
        EDGE.call(read("x26/900000/000000,s080", 0, false), 0, "fondness", 0);
        EDGE.call(read("x26/000001/000000,s053", 5, true), EVERY_FOND - 1, "fondness", 0);
    }

    private static void inPlaceOfWhatItIsAlone() {
        String[] names = {"worths", "kinds", "fondness"};
        int[] ofOneSent = {0b1110000000, 2, 0};
        int[][] ofTwoSent = {{0b1111100000, 0b1111111100, EVERY_WORTH}, {3, 3, EVERY_KIND}, {15, 15, EVERY_FOND}};
        for (int n = 0; n < 3; n++) {
            EDGE.sentence(18 + n, "in place of what it is alone");
            FosterSons x = read("x21/7/0,s050,s020,s190", 0, false);
            EDGE.call(x, ofOneSent[n], names[n], 0);
            EDGE.call(x, 0, names[n], 1);
            EDGE.call(x, 0, names[n], 2);
            x.send(1, 1, 0);
            for (int s = 0; s < 3; s++) {
                EDGE.call(x, ofTwoSent[n][s], names[n], s);
            }
        }
    }

    private static void allReadingsAreSo() {
        String[] names = {"worths", "kinds", "fondness"};
        int[][] want = {{63, 992, 255, EVERY_WORTH, EVERY_WORTH}, {5, 2, 4, 7, 7}, {14, 15, 15, 15, 15}};
        for (int n = 0; n < 3; n++) {
            EDGE.sentence(18 + n, "by which all READINGS are so");
            for (int s = 0; s < 5; s++) {
                EDGE.keeps(Scene.TREATY, want[n][s], names[n], s);
            }
            FosterSons x = Check.with("x21/1/1,s000,s100");
            for (int r = 0; r < 7; r++) {
                x.reading(0, 0, true);
            }
            EDGE.call(x, n == 0 ? EVERY_WORTH : n == 1 ? EVERY_KIND : EVERY_FOND, names[n], 0);
            x.reading(1, 0, false);
            EDGE.call(x, 0, names[n], 0);
        }
    }

    private static void oddsLost() {
        EDGE.sentence(21, "LOST: STATE: there is no TREATY");
        for (int year : new int[] {MIN, -1, 0, 1, MAX}) {
            EDGE.refused(Scene.NEW, STATE, "odds", year, 0);
            EDGE.refused(Scene.ROWS, STATE, "odds", year, 1);
        }
        EDGE.sentence(21, "LOST: OUTSIDE: year, which");
        EDGE.beyondYears(0, "odds", 0, 0);
        EDGE.beyondYears(0, "odds", 0, 1);
        for (int which : Edge.beyond(0, 1)) {
            EDGE.refused(Scene.TREATY, OUTSIDE, "odds", 0, which);
            EDGE.refused(Scene.TREATY, OUTSIDE, "odds", 4, which);
        }
    }

    private static void share(FosterSons x, int year, long upper, long lower) {
        EDGE.call(x, upper, "odds", year, 0);
        EDGE.call(x, lower, "odds", year, 1);
    }

    private static void oddsOfNobody() {
        EDGE.sentence(21, "nobody is SENT");
        EDGE.keeps(Scene.LEAST, 0, "odds", 0, 0);
        EDGE.keeps(Scene.LEAST, 1, "odds", 0, 1);
        share(Check.with("x21/1/0,s090"), 0, 1, 1);
        share(Check.with("x21/0/1,s090"), 0, 1, 1);
    }

    private static FosterSons fiveAway(String text) {
        FosterSons x = Check.with(text);
        for (int s = 0; s < 5; s++) {
            x.send(s, 1, 0);
        }
        return x;
    }

    private static void oddsOfAll() {
        EDGE.sentence(21, "all such sets of SONS alike");
        share(fiveAway("x21/9/0,s020,s020,s020,s020,s010"), 0, 31, 32);
        share(fiveAway("x21/5/0,s020,s020,s020,s020,s010"), 0, 1, 32);
        share(fiveAway("x21/4/0,s020,s020,s020,s020,s010"), 0, 0, 1);
        share(fiveAway("x21/9/0,s020,s020,s020,s020,s000"), 0, 1, 1);
        // Only the last one counts: 5, or 2 as a PAGE.
        share(fiveAway("x21/3/0,s000,s000,s000,s000,s050"), 0, 1, 2);
        share(fiveAway("x21/9/0,s050,s000,s000,s000,s050"), 0, 3, 4);
    }

    private static void oddsInLeastTerms() {
        EDGE.sentence(21, "shares in least terms, the lower number above 0");
        share(fiveAway("x21/0/0,s020,s020,s020,s020,s010"), 0, 0, 1);
        share(fiveAway("x21/0/1,s020,s020,s020,s020,s010"), 0, 1, 1);
        // Of four SONS of 2 each: at most two are PAGES in 11 sets of 16.
        share(fiveAway("x21/6/0,s020,s020,s020,s020,p000"), 0, 5, 16);
        share(fiveAway("x21/7/0,s020,s020,s020,s020,p000"), 0, 11, 16);
        share(fiveAway("x21/8/0,s020,s020,s020,s020,p000"), 0, 15, 16);
        share(fiveAway("x21/6/0,s020,s020,s020,s000,s000"), 0, 7, 8);
    }

    private static void oddsByThatYear() {
        EDGE.sentence(21, "a BREAK by that YEAR");
        FosterSons x = Check.with("x26/001000/000000,s010");
        share(x, 0, 0, 1);
        share(x, 1, 0, 1);
        share(x, 2, 1, 1);
        share(x, 5, 1, 1);
        x.send(0, 1, 2);
        share(x, 1, 0, 1);
        share(x, 2, 1, 2);
        share(x, 5, 1, 2);
        x = Check.with("x26/000000/000001,s110");
        x.send(0, 0, 5);
        share(x, 4, 0, 1);
        share(x, 5, 1, 2);
        x.tempt(1, 4, 1);
        share(x, 4, 1, 1);
    }

    private static void oddsOfPages() {
        EDGE.sentence(21, "of the kind that he is, or a PAGE");
        FosterSons x = fiveAway("x21/3/0,p060,p000,p000,p000,p000");
        share(x, 0, 0, 1);
        x.tempt(0, 0, 4);
        share(x, 0, 1, 1);
        x = fiveAway("x21/5/0,h030,p000,p000,p000,p000");
        share(x, 0, 1, 2);
        EDGE.call(x, 1, "ofSon", 0, 0);
        x.tempt(0, 0, 1);
        share(x, 0, 0, 1);
        x.tempt(0, 0, 2);
        share(x, 0, 1, 2);
    }
}
