import java.util.Random;
import java.util.regex.Matcher;
import java.util.regex.Pattern;

/**
 * "An object is used for at most 512 calls": runs of exactly so many, with the greatest TREATY (4 COURTS, 6 YEARS,
 * 5 SONS, all SENT), 8 READINGS and four rows of 60 cells. Each answer is held against the Model; where calls go round,
 * against what was worked out by hand, too.
 */
public final class LongRunTest {
    private static final Check CHECK = new Check("LongRunTest");
    private static final int CALLS = 512, RUNS = 300;
    private static final int NONE = FosterSons.NONE;
    /** With all SONS SENT from YEAR 0 on nobody breaks; son 4 need not be. */
    private static final String TEXT = "x46/444444/333333/200000/111111,s091,h191,p253,s310,h003";
    private static final int[] KEEPERS = {1, 0, 3, 2, 3};
    private static final int[][] READINGS = {{0, 0}, {0, 5}, {1, 0}, {1, 5}, {2, 0}, {2, 1}, {3, 0}, {3, 5}};
    private static final int[] PLAN = {0, 0, 0, 0, 6};
    private static final Pattern ROW = Pattern.compile("(\\w+)\\(([^)]*)\\) = (-?\\w+)");
    private static final String BACK_AND_AGAIN = "back(8) = 0; worths(0) = 1023; reading(0, 0, 0) = 0;"
        + " reading(0, 5, 0) = 1; reading(1, 0, 0) = 2; reading(1, 5, 0) = 3; reading(2, 0, 0) = 4;"
        + " reading(2, 1, 0) = 5; reading(3, 0, 0) = 6; reading(3, 5, 0) = 7; reading(3, 5, 0) = -4; worths(0) = 896";
    private static final String TOLD_AND_FULL = "treaty(0, 0, 4, 56) = 5; many(3) = 0; many(4) = 0; kinds(1) = 7;"
        + " send(1, 0, 0) = 1; send(0, 1, 0) = 1; send(4, 3, 0) = 1; send(3, 2, 0) = 1; send(2, 3, 0) = 1;"
        + " reading(0, 0, 0) = 0; reading(0, 5, 0) = 1; reading(1, 0, 0) = 2; reading(1, 5, 0) = 3;"
        + " reading(2, 0, 0) = 4; reading(2, 1, 0) = 5; reading(3, 0, 0) = 6; reading(3, 5, 0) = 7; kinds(1) = 3;"
        + " broken(0) = -9";

    /** Each goes round until the object has had its 512 calls; a TREATY that is full is ahead of it. */
    private static final String[] ROUNDS = {
        "ofSon(4, 0) = 1; ofSon(4, 1) = 0; ofSon(4, 2) = 0; ofSon(4, 3) = 3; ofSon(4, 4) = 3; ofSon(4, 5) = 0",
        "gain(3, 5) = 1; gain(0, 0) = 4; gain(4, 0) = -1; gain(0, 6) = -2",
        "tempt(3, 5, 9) = 1; tempted(5) = 8; broken(0) = 5; broken(1) = 3; tempt(3, 5, 1) = 9; tempted(5) = 0",
        "send(4, 1, 5) = 0; ofSon(4, 5) = 5; many(3) = 5; send(4, 3, 0) = 0; send(4, 3, 0) = 1; send(4, 0, 0) = -3",
        "home(4) = 1; many(3) = 4; stake(4, 5) = -9; home(4) = 0; send(4, 3, 0) = 1; stake(4, 5) = 2",
        "stake(0, 0) = 9; stake(0, 5) = 4; stake(1, 5) = 6; stake(2, 0) = 2; stake(2, 5) = 0; stake(3, 5) = 1",
        "stakes(0, 0) = 11; stakes(0, 5) = 6; stakes(1, 0) = 11; stakes(2, 0) = 2; stakes(3, 5) = 1",
        "tempted(0) = 0; tempted(5) = 0; tempted(6) = -2; broken(0) = -9; broken(1) = -9; broken(2) = -2",
        "plan(1, 1, 55, 5, 0) = -9; plan(1, 1, 55, 5, 2) = 4; plan(1, 1, 55, 5, 10) = 4; plan(1, 1, 55, 5, 13) = 1",
        "plan(1, 1, 55, 6, 0) = -13; fault() = 3; plan(1, 1, 55, 4, 0) = -2; fault() = 0; plan(1, 2, 55, 5, 0) = -12",
        "least() = 15",
        "hole(0) = -9; hole(3) = -9; hole(4) = -1",
        "when(0) = 0; when(1) = 0; when(2) = 0; when(3) = 0; when(4) = 6; when(5) = -1",
        "reading(3, 5, 1) = -4; reading(4, 0, 1) = -1; reading(0, 6, 1) = -2; many(4) = 8",
        "back(0) = 8; back(9) = -2; back(1) = 7; fondness(3) = 15; reading(3, 5, 0) = 7; fondness(3) = 1",
        BACK_AND_AGAIN,
        TOLD_AND_FULL,
        "worths(0) = 896; worths(1) = 960; worths(2) = 1008; worths(3) = 1022; worths(4) = 1023; worths(5) = -1",
        "kinds(0) = 7; kinds(1) = 3; kinds(2) = 7; kinds(3) = 3; kinds(4) = 7; kinds(-1) = -1",
        "fondness(0) = 3; fondness(1) = 3; fondness(2) = 15; fondness(3) = 1; fondness(4) = 15",
        "odds(0, 0) = 1; odds(0, 1) = 2; odds(1, 1) = 2; odds(2, 0) = 5; odds(2, 1) = 8; odds(3, 0) = 5",
        "odds(4, 0) = 13; odds(5, 0) = 13; odds(5, 1) = 16; odds(6, 0) = LOST; odds(5, 2) = LOST",
        "sheet(3, 2, 60) = 1; put(3, 59, 70000) = 1; cell(3, 59, 2) = 70000; sheet(3, 2, 61) = -2;"
            + " cell(3, 59, 2) = 70000",
        "sheet(3, 0, -1) = -14; fault() = 4; lose(3) = 1; lose(3) = 0; cell(3, 0, 0) = LOST; fault() = 1;"
            + " sheet(3, 0, 60) = 1",
        "put(2, 59, -1) = 1; put(2, 60, -1) = -13; put(4, 0, 0) = -1; cell(2, 59, 2) = -1; cell(2, 59, 0) = LOST",
        "copy(0, 0, 3, 0, 60) = 60; cell(3, 4, 0) = 120; cell(3, 59, 0) = 51; copy(0, 1, 3, 0, 60) = -13;"
            + " copy(0, 0, 1, 0, 60) = -12",
        "as(2, 2) = 1; as(4, 2) = -12; fault() = 2; as(4, 1) = 1; fault() = 0; as(0, 1) = -12; as(5, 0) = -1",
        "tell(0) = 9; tell(1) = 109; tell(2) = 110; tell(3) = 1; tell(4) = 100",
        "teach(0) = 0; teach(1) = 1; teach(2) = 50; teach(3) = 3; teach(4) = 4; teach(5) = -1",
        "trace() = 0; many(0) = 5; many(1) = 4; many(2) = 6; many(3) = 5; many(4) = 8; many(5) = -2",
    };

    private final String name;
    private final FosterSons x = new FosterSons();
    private final Model model = new Model();
    private int calls = 0;
    private int fullCalls = 0;

    private LongRunTest(String name) {
        this.name = name;
    }

    public static void main(String[] args) {
        for (String round : ROUNDS) {
            goRound(round);
        }
        traceOfALongRun();
        for (int seed = 0; seed < RUNS; seed++) {
            byChance(seed);
        }
        CHECK.end();
    }

    /** One call, of the class and of the Model, unless the object has had all its calls. */
    private long ask(String call, int... args) {
        if (calls == CALLS) {
            return NONE;
        }
        calls++;
        fullCalls += model.many(4) == 8 && model.many(3) == 5 ? 1 : 0;
        long got = Face.call(x, call, args);
        CHECK.due(name + ", call " + calls + ": " + Face.text(call, args), got, Face.call(model, call, args));
        return got;
    }

    private boolean hasCallsLeft() {
        return calls < CALLS;
    }

    private void fill() {
        ask("sheet", 0, 0, 60);
        for (int i = 0; i < TEXT.length(); i++) {
            ask("put", 0, 4 + i, TEXT.charAt(i));
        }
        ask("sheet", 1, 1, 60);
        for (int s = 0; s < PLAN.length; s++) {
            ask("put", 1, 55 + s, PLAN[s]);
        }
        ask("sheet", 2, 2, 60);
        ask("sheet", 3, 0, 60);
        tellAnew();
    }

    private void tellAnew() {
        ask("treaty", 0, 0, 4, TEXT.length());
        for (int s = 0; s < KEEPERS.length; s++) {
            ask("send", s, KEEPERS[s], 0);
        }
        readAll();
    }

    private void readAll() {
        for (int[] r : READINGS) {
            ask("reading", r[0], r[1], 0);
        }
    }

    private void ended() {
        CHECK.due(name + ": calls", calls, CALLS);
    }

    private static void goRound(String round) {
        LongRunTest run = new LongRunTest(round);
        run.fill();
        CHECK.due(round + ": READINGS are full", run.model.many(4), 8);
        while (run.hasCallsLeft()) {
            Matcher row = ROW.matcher(round);
            while (row.find() && run.hasCallsLeft()) {
                run.askRow(row.group(1), row.group(2), row.group(3));
            }
        }
        run.ended();
    }

    private void askRow(String call, String numbers, String want) {
        String[] parts = numbers.isEmpty() ? new String[0] : numbers.split(", ");
        int[] args = new int[parts.length];
        for (int a = 0; a < args.length; a++) {
            args[a] = Integer.parseInt(parts[a]);
        }
        long due = want.equals("LOST") ? FosterSons.LOST : Long.parseLong(want);
        long got = ask(call, args);
        CHECK.due("due of " + name + ", call " + calls + ": " + Face.text(call, args), got, due);
    }

    private static void traceOfALongRun() {
        LongRunTest run = new LongRunTest("trace of a long run");
        run.fill();
        int[][] bodies = {{1}, {2, 1}, {3, 2, 1, 1}, {1}, {2, 1}};
        int trace = 0;
        for (int s = 0; run.calls < CALLS - 1; s = (s + 1) % 5) {
            run.ask("tell", s);
            for (int body : bodies[s]) {
                trace = 31 * trace + body;
            }
        }
        CHECK.due("the 512th call: trace()", run.ask("trace"), trace);
        run.ended();
    }

    private static void byChance(int seed) {
        LongRunTest run = new LongRunTest("seed " + seed);
        Random random = new Random(seed);
        run.fill();
        while (run.hasCallsLeft()) {
            run.step(random);
        }
        run.ended();
        // So that a run stays what it is here for.
        boolean mostlyFull = run.fullCalls > CALLS / 2;
        CHECK.due("seed " + seed + ": most calls with all SENT and READINGS full", mostlyFull ? 1 : 0, 1);
    }

    /** Mostly 0 .. many - 1, now and then next to them. */
    private static int some(Random random, int many) {
        return random.nextInt(15) == 0 ? random.nextBoolean() ? -1 : many : random.nextInt(many);
    }

    private void step(Random random) {
        int s = some(random, 5);
        int c = some(random, 4);
        int year = some(random, 6);
        switch (random.nextInt(16)) {
            case 0:
                ask("tempt", c, year, random.nextInt(4));
                break;
            case 1:
                ask("send", s, c, year);
                break;
            case 2:
                comesAndGoes(random, s);
                break;
            case 3:
                readsOtherwise(random, c, year);
                break;
            case 4:
                if (random.nextInt(20) == 0) {
                    tellAnew();
                }
                break;
            case 5:
                onSheets(random);
                break;
            case 6:
                ask("plan", 1, some(random, 3), 53 + random.nextInt(4), 4 + random.nextInt(3), some(random, 14));
                ask("fault");
                break;
            case 7:
                ask("as", s, some(random, 3));
                ask("fault");
                break;
            default:
                question(random, s, c, year);
                break;
        }
    }

    private void comesAndGoes(Random random, int s) {
        ask("home", s);
        ask("many", 3);
        if (s >= 0 && s < KEEPERS.length) {
            ask("send", s, KEEPERS[s], random.nextInt(6));
        }
    }

    /** Some READINGS are taken back and others told, mostly as it is, until there are 8 again. */
    private void readsOtherwise(Random random, int c, int year) {
        ask("reading", c, year, random.nextInt(2));
        ask("back", random.nextInt(4));
        for (int r = 0; r < 4; r++) {
            int court = random.nextInt(4);
            int inYear = random.nextInt(6);
            int so = model.tempted(inYear) >> court & 1;
            ask("reading", court, inYear, random.nextInt(8) == 0 ? 1 - so : so);
        }
    }

    private void onSheets(Random random) {
        int i = some(random, 60);
        ask("put", 1 + random.nextInt(3), random.nextBoolean() ? 55 + random.nextInt(5) : i, random.nextInt(8));
        ask("copy", some(random, 4), i, 1 + random.nextInt(3), some(random, 60), some(random, 20));
        ask("fault");
        ask("cell", some(random, 4), i, some(random, 3));
    }

    private void question(Random random, int s, int c, int year) {
        String[] ofSons = {"worths", "kinds", "fondness", "when", "tell", "teach"};
        switch (random.nextInt(8)) {
            case 0:
                ask("stake", s, year);
                ask("stakes", c, year);
                break;
            case 1:
                ask("tempted", year);
                ask("broken", some(random, 2));
                break;
            case 2:
                ask("least");
                ask("hole", c);
                break;
            case 3:
                ask("odds", year, 0);
                ask("odds", year, some(random, 2));
                break;
            case 4:
                ask("ofSon", s, some(random, 6));
                ask("gain", c, year);
                break;
            case 5:
                ask("trace");
                ask("many", some(random, 5));
                break;
            default:
                ask(ofSons[random.nextInt(ofSons.length)], s);
                break;
        }
    }
}
