import java.util.Random;

/** Promises 1 to 32 by chance: the same calls to the class and to the Model, with one seed for each object. */
public final class ModelTest {
    private static final int OBJECTS = 3000, CALLS = 512;
    private static final int[] WILD = {Integer.MIN_VALUE, Integer.MAX_VALUE, -2, 7, 60, 61, 100, -100};
    private static final Check CHECK = new Check("ModelTest");

    private final Random random;
    private final FosterSons x = new FosterSons();
    private final Model m = new Model();
    private final int seed;
    private int calls = 0;

    private ModelTest(int seed) {
        this.seed = seed;
        this.random = new Random(seed);
    }

    public static void main(String[] args) {
        for (int seed = 0; seed < OBJECTS; seed++) {
            ModelTest test = new ModelTest(seed);
            while (test.calls < CALLS - 70) {
                test.step();
            }
        }
        CHECK.end();
    }

    private void due(String call, long got, long want) {
        calls++;
        CHECK.due("seed " + seed + ", call " + calls + ": " + call, got, want);
    }

    /** Mostly 0 .. most - 1, now and then just outside, seldom far away. */
    private int some(int most) {
        int chance = random.nextInt(40);
        if (chance == 0) {
            return WILD[random.nextInt(WILD.length)];
        }
        if (chance == 1) {
            return -1;
        }
        return chance == 2 ? most : random.nextInt(most);
    }

    private int court() {
        return some(Math.max(2, m.many(1)));
    }

    private int year() {
        return some(Math.max(1, m.many(2)));
    }

    private int son() {
        return some(Math.max(1, m.many(0)));
    }

    private void step() {
        int chance = random.nextInt(100);
        if (m.many(0) == 0 && chance < 50 || chance < 2) {
            layText();
        } else if (chance < 5) {
            layPlan();
        } else if (chance < 30) {
            parts();
        } else if (chance < 55) {
            changes();
        } else {
            questions();
        }
    }

    private String text() {
        int courts = 2 + random.nextInt(3);
        int years = 1 + random.nextInt(6);
        StringBuilder b = new StringBuilder("x").append(courts).append(years);
        int most = 1 + random.nextInt(10);
        for (int c = 0; c < courts; c++) {
            b.append('/');
            for (int y = 0; y < years; y++) {
                b.append(random.nextInt(most));
            }
        }
        int sons = 1 + random.nextInt(random.nextInt(10) == 0 ? 6 : 5);
        for (int s = 0; s < sons; s++) {
            int father = random.nextInt(3) == 0 ? random.nextInt(courts) : 0;
            b.append(',').append("shp".charAt(random.nextInt(3))).append(father).append(random.nextInt(10))
                .append(random.nextInt(4));
        }
        return b.toString();
    }

    private void layText() {
        StringBuilder b = new StringBuilder(text());
        if (random.nextInt(3) == 0) {
            b.setCharAt(random.nextInt(b.length()), "xshp/,0123456789:?".charAt(random.nextInt(18)));
        }
        if (random.nextInt(5) == 0) {
            b.setLength(random.nextInt(b.length()));
        }
        int lead = Math.min(random.nextInt(3), Math.max(0, 60 - b.length()));
        int k = random.nextInt(4);
        int lane = random.nextInt(3);
        int size = Math.min(60, lead + b.length());
        due("sheet", x.sheet(k, lane, size), m.sheet(k, lane, size));
        for (int i = lead; i < size; i++) {
            // Above the LANE's own bits, to see it cut.
            int code = b.charAt(i - lead) + (lane < 2 && random.nextInt(200) == 0 ? 65536 : 0);
            due("put", x.put(k, i, code), m.put(k, i, code));
        }
        int n = random.nextInt(12) == 0 ? some(60) : size - lead;
        due("treaty of " + b, x.treaty(k, lane, lead, n), m.treaty(k, lane, lead, n));
        due("fault", x.fault(), m.fault());
    }

    private void layPlan() {
        int k = random.nextInt(4);
        int lane = random.nextInt(3);
        int sons = Math.max(1, m.many(0));
        int size = random.nextInt(10) == 0 ? sons + 1 : sons;
        due("sheet", x.sheet(k, lane, size), m.sheet(k, lane, size));
        for (int i = 0; i < sons; i++) {
            int from = random.nextInt(30) == 0 ? some(7) : random.nextInt(m.many(2) + 1);
            due("put", x.put(k, i, from), m.put(k, i, from));
        }
        int[] whats = {0, 1, 2, 10, 11, 12, 13, some(14)};
        for (int what : whats) {
            int n = random.nextInt(20) == 0 ? some(6) : sons;
            int i = random.nextInt(20) == 0 ? some(3) : 0;
            int as = random.nextInt(20) == 0 ? some(3) : lane;
            due("plan " + what, x.plan(k, as, i, n, what), m.plan(k, as, i, n, what));
            due("fault", x.fault(), m.fault());
        }
    }

    private void parts() {
        int k = some(4);
        int other = some(4);
        int lane = some(3);
        int i = some(12);
        int j = some(12);
        int n = some(14);
        int v = random.nextInt(3) == 0 ? random.nextInt() : some(300);
        switch (random.nextInt(9)) {
            case 0:
                due("sheet " + k + " " + lane + " " + n, x.sheet(k, lane, n), m.sheet(k, lane, n));
                break;
            case 1:
                if (random.nextInt(3) == 0) {
                    due("lose " + k, x.lose(k), m.lose(k));
                }
                break;
            case 2:
                due("put " + k + " " + i + " " + v, x.put(k, i, v), m.put(k, i, v));
                break;
            case 3:
            case 4:
                due("cell " + k + " " + i + " " + lane, x.cell(k, i, lane), m.cell(k, i, lane));
                break;
            case 5:
            case 6:
                due("copy " + k + " " + i + " " + other + " " + j + " " + n, x.copy(k, i, other, j, n),
                    m.copy(k, i, other, j, n));
                break;
            case 7:
                due("treaty " + k + " " + lane + " " + i + " " + n, x.treaty(k, lane, i, n), m.treaty(k, lane, i, n));
                break;
            default:
                due("plan " + k + " " + lane + " " + i + " " + n, x.plan(k, lane, i, n, j), m.plan(k, lane, i, n, j));
                break;
        }
        due("fault", x.fault(), m.fault());
    }

    private void changes() {
        int s = son();
        int c = court();
        int year = year();
        int v = some(10);
        boolean was = random.nextBoolean();
        switch (random.nextInt(8)) {
            case 0:
            case 1:
            case 2:
                due("send " + s + " " + c + " " + year, x.send(s, c, year), m.send(s, c, year));
                break;
            case 3:
                due("home " + s, x.home(s), m.home(s));
                break;
            case 4:
                due("tempt " + c + " " + year + " " + v, x.tempt(c, year, v), m.tempt(c, year, v));
                break;
            case 5:
            case 6:
                // Mostly as it is, so that the sets that fit are not always empty.
                boolean so = random.nextInt(4) == 0 ? was : (m.tempted(year) >> (c & 3) & 1) == 1;
                due("reading " + c + " " + year + " " + so, x.reading(c, year, so), m.reading(c, year, so));
                break;
            default:
                int k = some(3);
                due("back " + k, x.back(k), m.back(k));
                break;
        }
    }

    private void questions() {
        int s = son();
        int c = court();
        int year = year();
        int what = some(6);
        switch (random.nextInt(12)) {
            case 0:
                due("ofSon " + s + " " + what, x.ofSon(s, what), m.ofSon(s, what));
                break;
            case 1:
                due("gain " + c + " " + year, x.gain(c, year), m.gain(c, year));
                due("many " + what, x.many(what), m.many(what));
                break;
            case 2:
                due("stake " + s + " " + year, x.stake(s, year), m.stake(s, year));
                break;
            case 3:
                due("stakes " + c + " " + year, x.stakes(c, year), m.stakes(c, year));
                break;
            case 4:
                due("tempted " + year, x.tempted(year), m.tempted(year));
                break;
            case 5:
                int which = some(2);
                due("broken " + which, x.broken(which), m.broken(which));
                break;
            case 6:
                due("least", x.least(), m.least());
                break;
            case 7:
                due("hole " + c, x.hole(c), m.hole(c));
                due("when " + s, x.when(s), m.when(s));
                break;
            case 8:
                due("worths " + s, x.worths(s), m.worths(s));
                due("kinds " + s, x.kinds(s), m.kinds(s));
                due("fondness " + s, x.fondness(s), m.fondness(s));
                break;
            case 9:
                int part = some(2);
                due("odds " + year + " " + part, x.odds(year, part), m.odds(year, part));
                break;
            case 10:
                due("tell " + s, x.tell(s), m.tell(s));
                due("teach " + s, x.teach(s), m.teach(s));
                due("trace", x.trace(), m.trace());
                break;
            default:
                int kind = some(3);
                due("as " + s + " " + kind, x.as(s, kind), m.as(s, kind));
                due("fault", x.fault(), m.fault());
                break;
        }
    }
}
