/** What the project's tests share: counting of wrong answers, and ways to lay cells on a SHEET. */
final class Check {
    private final String name;
    private int asked = 0;
    private int wrong = 0;

    Check(String name) {
        this.name = name;
    }

    void due(String call, long got, long want) {
        asked++;
        if (got != want) {
            wrong++;
            System.out.println(name + ": " + call + " answered " + got + ", due is " + want);
        }
    }

    /** Asks that a whole row of answers is as due, told as one text. */
    void due(String call, String got, String want) {
        asked++;
        if (!got.equals(want)) {
            wrong++;
            System.out.println(name + ": " + call + " answered " + got + ", due is " + want);
        }
    }

    void end() {
        System.out.println(name + ": " + asked + " answers, " + wrong + " not as due");
        if (wrong != 0) {
            System.exit(1);
        }
    }

    static void lay(FosterSons x, int sheet, int lane, int... cells) {
        x.sheet(sheet, lane, cells.length);
        for (int i = 0; i < cells.length; i++) {
            x.put(sheet, i, cells[i]);
        }
    }

    /** The first n cells of a SHEET, told as one text. */
    static String row(FosterSons x, int k, int lane, int n) {
        StringBuilder all = new StringBuilder();
        for (int i = 0; i < n; i++) {
            all.append(x.cell(k, i, lane)).append(' ');
        }
        return all.toString();
    }

    static int[] codes(String text) {
        return text.chars().toArray();
    }

    static int take(FosterSons x, String text) {
        lay(x, 0, 0, codes(text));
        return x.treaty(0, 0, 0, text.length());
    }

    static FosterSons with(String text) {
        FosterSons x = new FosterSons();
        if (take(x, text) < 0) {
            throw new IllegalArgumentException("no TEXT: " + text);
        }
        return x;
    }
}
