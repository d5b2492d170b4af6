import java.util.Arrays;

/** States from which edges are come to. None takes over 490 calls, with all that is asked of it by {@link #all}. */
enum Scene {
    /** Nothing at all. */
    NEW(0, 0, 0),
    /** SHEETS as in TREATY, but no TREATY. */
    ROWS(0, 0, 0),
    /** 2 COURTS, 1 YEAR, 1 SON: as few of each as there may be; nobody SENT, no READINGS. */
    LEAST(2, 1, 1),
    /** 3 COURTS, 4 YEARS, 5 SONS (4 SENT); 3 READINGS; SHEETS of 43 bytes, 5 shorts (a PLAN), 60 ints, nothing. */
    TREATY(3, 4, 5),
    /** 4 COURTS, 6 YEARS, 5 SONS, all SENT; 8 READINGS; 4 SHEETS of 60 cells: nothing more goes in. */
    FULL(4, 6, 5);

    static final String LEAST_TEXT = "x21/0/0,s000";
    static final String TEXT = "x34/3142/2057/0110,s051,h162,p270,s083,h030";
    static final String GREATEST_TEXT = "x46/123456/654321/012345/999999,s391,h282,p173,s063,h393";
    private static final int[] PLAN = {0, 1, 2, 4, 3};

    final int courts, years, sons;

    Scene(int courts, int years, int sons) {
        this.courts = courts;
        this.years = years;
        this.sons = sons;
    }

    FosterSons make() {
        FosterSons x = new FosterSons();
        build(x);
        return x;
    }

    void build(Object x) {
        switch (this) {
            case ROWS:
                layRows(x);
                break;
            case LEAST:
                Face.lay(x, 0, 0, Check.codes(LEAST_TEXT));
                Face.call(x, "treaty", 0, 0, 0, LEAST_TEXT.length());
                break;
            case TREATY:
                layRows(x);
                makeTreaty(x);
                break;
            case FULL:
                fill(x);
                break;
            default:
                break;
        }
    }

    private static void layRows(Object x) {
        Face.lay(x, 0, 0, Check.codes(TEXT));
        Face.lay(x, 1, 1, PLAN);
        int[] sixty = new int[60];
        sixty[0] = -1;
        sixty[59] = 70000;
        Face.lay(x, 2, 2, sixty);
    }

    private static void makeTreaty(Object x) {
        Face.call(x, "treaty", 0, 0, 0, TEXT.length());
        int[][] sent = {{0, 1, 0}, {1, 2, 1}, {2, 0, 2}, {4, 2, 3}};
        each(x, "send", sent);
        Face.call(x, "tempt", 2, 3, 4);
        int[][] readings = {{0, 2, 1}, {1, 2, 0}, {2, 3, 1}};
        each(x, "reading", readings);
        Face.call(x, "tell", 1);
    }

    private static void fill(Object x) {
        int[] row = new int[60];
        int[] codes = Check.codes(GREATEST_TEXT);
        System.arraycopy(codes, 0, row, 4, codes.length);
        Face.lay(x, 0, 0, row);
        for (int k = 1; k < 4; k++) {
            Face.lay(x, k, k % 3, new int[60]);
            Face.call(x, "put", k, 59, 100 + k);
        }
        Face.call(x, "treaty", 0, 0, 4, codes.length);
        int[][] sent = {{0, 0, 0}, {1, 3, 5}, {2, 0, 0}, {3, 1, 2}, {4, 2, 5}};
        each(x, "send", sent);
        int[][] readings = {{0, 0, 1}, {3, 0, 0}, {3, 1, 1}, {1, 0, 1}, {1, 5, 1}, {2, 5, 0}, {0, 2, 0}, {3, 5, 0}};
        each(x, "reading", readings);
        Face.call(x, "teach", 2);
    }

    private static void each(Object x, String name, int[][] rows) {
        for (int[] row : rows) {
            Face.call(x, name, row);
        }
    }

    /** All that can be asked, but fault(); the READINGS are taken back one by one, so that each of them shows. */
    static String all(Object x) {
        StringBuilder all = new StringBuilder("trace ").append(Face.call(x, "trace"));
        long[] many = new long[5];
        for (int what = 0; what < 5; what++) {
            many[what] = Face.call(x, "many", what);
        }
        all.append(" many ").append(Arrays.toString(many));
        for (int s = 0; s < many[0]; s++) {
            all.append(" son");
            for (int what = 0; what < 6; what++) {
                all.append(' ').append(Face.call(x, "ofSon", s, what));
            }
            all.append(" kinds ").append(Face.call(x, "kinds", s));
            all.append(" fondness ").append(Face.call(x, "fondness", s));
        }
        for (int c = 0; c < many[1]; c++) {
            all.append(" gains");
            for (int year = 0; year < many[2]; year++) {
                all.append(' ').append(Face.call(x, "gain", c, year));
            }
        }
        for (int k = 0; k < 4; k++) {
            all.append(" sheet").append(rows(x, k));
        }
        for (long r = many[4]; r > 0; r--) {
            all.append(" worths");
            for (int s = 0; s < many[0]; s++) {
                all.append(' ').append(Face.call(x, "worths", s));
            }
            Face.call(x, "back", 1);
        }
        return all.toString();
    }

    /** What a SHEET has as a row of each LANE, with the FAULT at its end. */
    private static String rows(Object x, int k) {
        StringBuilder all = new StringBuilder();
        for (int lane = 0; lane < 3; lane++) {
            all.append(" |");
            for (int i = 0; i <= 60; i++) {
                long cell = Face.call(x, "cell", k, i, lane);
                if (cell == FosterSons.LOST) {
                    all.append(" fault ").append(Face.call(x, "fault"));
                    break;
                }
                all.append(' ').append(cell);
            }
        }
        return all.toString();
    }
}
