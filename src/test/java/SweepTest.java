/**
 * Promises 2 to 32: every call with all its edge numbers crossed, from every Scene, held against the Model; so what is
 * wrong in several ways at once is refused in the order in which the document tells it.
 */
public final class SweepTest {
    private static final Check CHECK = new Check("SweepTest");
    /** With the calls that make a Scene and ask all of it, still no more than 512 of one object. */
    private static final int CALLS = 12;
    private static final int MIN = Integer.MIN_VALUE, MAX = Integer.MAX_VALUE;
    private static final int[] SHEET = {MIN, -1, 0, 1, 2, 3, 4, MAX}, SON = {MIN, -1, 0, 1, 2, 3, 4, 5, MAX};
    private static final int[] COURT = {MIN, -1, 0, 1, 2, 3, 4, MAX}, YEAR = {MIN, -1, 0, 1, 2, 3, 4, 5, 6, MAX};
    private static final int[] LANE = {MIN, -1, 0, 1, 2, 3, MAX}, TWO = {MIN, -1, 0, 1, 2, MAX};
    private static final int[] PLACE = {MIN, -1, 0, 1, 4, 5, 43, 59, 60, MAX};
    private static final int[] LENGTH = {MIN, -1, 0, 1, 4, 5, 6, 12, 43, 56, 60, 61, MAX};
    private static final int[] VALUE = {MIN, -32769, -129, -1, 0, 9, 10, 127, 128, 32767, 32768, MAX};
    private static final int[] WHAT = {MIN, -1, 0, 1, 2, 3, 5, 6, 9, 10, 13, 14, MAX}, BOTH = {0, 1};

    private final Scene scene;
    private final String name;
    private final int[][] numbers;
    private FosterSons x;
    private Model model;
    private int calls = 0;

    private SweepTest(Scene scene, String name, int[][] numbers) {
        this.scene = scene;
        this.name = name;
        this.numbers = numbers;
    }

    public static void main(String[] args) {
        for (Scene scene : Scene.values()) {
            sendings(scene);
            readings(scene);
            parts(scene);
        }
        CHECK.end();
    }

    private static void sendings(Scene scene) {
        sweep(scene, "treaty", SHEET, LANE, PLACE, LENGTH);
        sweep(scene, "ofSon", SON, WHAT);
        sweep(scene, "gain", COURT, YEAR);
        sweep(scene, "tempt", COURT, YEAR, VALUE);
        sweep(scene, "send", SON, COURT, YEAR);
        sweep(scene, "home", SON);
        sweep(scene, "stake", SON, YEAR);
        sweep(scene, "stakes", COURT, YEAR);
        sweep(scene, "tempted", YEAR);
        sweep(scene, "broken", TWO);
        sweep(scene, "plan", SHEET, LANE, new int[] {-1, 0, 1, 5, MAX}, new int[] {MIN, -1, 0, 1, 5, 6, 60}, WHAT);
    }

    private static void readings(Scene scene) {
        sweep(scene, "least");
        sweep(scene, "hole", COURT);
        sweep(scene, "when", SON);
        sweep(scene, "reading", COURT, YEAR, BOTH);
        sweep(scene, "back", LENGTH);
        sweep(scene, "worths", SON);
        sweep(scene, "kinds", SON);
        sweep(scene, "fondness", SON);
        sweep(scene, "odds", YEAR, TWO);
    }

    private static void parts(Scene scene) {
        sweep(scene, "sheet", SHEET, LANE, LENGTH);
        sweep(scene, "lose", SHEET);
        sweep(scene, "put", SHEET, PLACE, VALUE);
        sweep(scene, "cell", SHEET, PLACE, LANE);
        sweep(scene, "copy", SHEET, new int[] {-1, 0, 1, 5, MAX}, SHEET, new int[] {-1, 0, 5, 60, MAX}, LENGTH);
        sweep(scene, "tell", SON);
        sweep(scene, "teach", SON);
        sweep(scene, "as", SON, LANE);
        sweep(scene, "trace");
        sweep(scene, "fault");
        sweep(scene, "many", WHAT);
    }

    private static void sweep(Scene scene, String name, int[]... numbers) {
        SweepTest test = new SweepTest(scene, name, numbers);
        test.begin();
        test.cross(new int[numbers.length], 0);
        test.compareAll();
    }

    private void begin() {
        x = scene.make();
        model = new Model();
        scene.build(model);
        calls = 0;
    }

    private void compareAll() {
        CHECK.due(scene + " all behind " + name, Scene.all(x), Scene.all(model));
    }

    private void cross(int[] args, int at) {
        if (at == args.length) {
            ask(args);
            return;
        }
        for (int number : numbers[at]) {
            args[at] = number;
            cross(args, at + 1);
        }
    }

    private void ask(int[] args) {
        if (calls == CALLS) {
            compareAll();
            begin();
        }
        calls++;
        String call = scene + " " + Face.text(name, args);
        CHECK.due(call, Face.call(x, name, args), Face.call(model, name, args));
        CHECK.due("fault() behind " + call, x.fault(), model.fault());
    }
}
