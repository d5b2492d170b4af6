import java.util.EnumMap;
import java.util.Map;
import java.util.Set;
import java.util.TreeSet;

/**
 * What the tests of edges share. Each row stands under a sentence of a promise; a call that is to change nothing is
 * made on a Scene of its own, and behind it all that can be asked is held against the same Scene without the call.
 */
final class Edge {
    static final int NULL = 1, CAST = 2, INDEX = 3, SIZE = 4;
    static final int MIN = Integer.MIN_VALUE, MAX = Integer.MAX_VALUE;
    private static final Set<String> NAMING_FAULTS = Set.of("treaty", "plan", "sheet", "put", "cell", "copy", "as");
    private static final Set<String> ANSWERING_LONGS = Set.of("cell", "odds");

    private final Check check;
    private final Map<Scene, String> untouched = new EnumMap<>(Scene.class);
    private final Set<Integer> named = new TreeSet<>();
    private String sentence = "";

    Edge(String name) {
        check = new Check(name);
    }

    /** The promise, and the words of it (or of a term that it uses) that the next rows hold. */
    void sentence(int promise, String words) {
        named.add(promise);
        sentence = "promise " + promise + ", " + words + ": ";
    }

    /** The numbers next to those that a call takes, below and above, and the farthest ones. */
    static int[] beyond(int least, int greatest) {
        return new int[] {least - 1, greatest + 1, MIN, MAX};
    }

    void due(String what, long got, long want) {
        check.due(sentence + what, got, want);
    }

    void due(String what, String got, String want) {
        check.due(sentence + what, got, want);
    }

    /** A call of a run on one object. */
    void call(FosterSons x, long want, String name, int... args) {
        due(Face.text(name, args), Face.call(x, name, args), want);
    }

    /** A call of a run on one object, and the FAULT behind it. */
    void call(FosterSons x, long want, int fault, String name, int... args) {
        call(x, want, name, args);
        due("fault() behind " + Face.text(name, args), x.fault(), fault);
    }

    /** A refused call: LOST for all that answer a long; 0 is the FAULT behind a call that names FAULTS. */
    void refused(Scene scene, int refusal, String name, int... args) {
        keeps(scene, ANSWERING_LONGS.contains(name) ? FosterSons.LOST : refusal, name, args);
    }

    /** From every Scene: UNKNOWN with each number beyond those of the SONS at one place among the numbers. */
    void beyondSons(int place, String name, int... args) {
        for (Scene scene : Scene.values()) {
            beyond(scene, FosterSons.UNKNOWN, scene.sons, place, name, args);
        }
    }

    /** From every Scene: UNKNOWN with each number beyond those of the COURTS. */
    void beyondCourts(int place, String name, int... args) {
        for (Scene scene : Scene.values()) {
            beyond(scene, FosterSons.UNKNOWN, scene.courts, place, name, args);
        }
    }

    /** From every Scene with a TREATY: OUTSIDE with each number beyond those of the YEARS. */
    void beyondYears(int place, String name, int... args) {
        for (Scene scene : Scene.values()) {
            if (scene.years > 0) {
                beyond(scene, FosterSons.OUTSIDE, scene.years, place, name, args);
            }
        }
    }

    private void beyond(Scene scene, int refusal, int many, int place, String name, int... args) {
        for (int number : beyond(0, many - 1)) {
            int[] given = args.clone();
            given[place] = number;
            refused(scene, refusal, name, given);
        }
    }

    /** A call that comes to a FAULT. */
    void faulted(Scene scene, int fault, String name, int... args) {
        keeps(scene, ANSWERING_LONGS.contains(name) ? FosterSons.LOST : -10 - fault, fault, name, args);
    }

    /** A call that comes to no FAULT, and changes nothing but, if it names FAULTS, fault(). */
    void keeps(Scene scene, long want, String name, int... args) {
        keeps(scene, want, NAMING_FAULTS.contains(name) ? 0 : SIZE, name, args);
    }

    private void keeps(Scene scene, long want, int fault, String name, int... args) {
        FosterSons x = scene.make();
        // A FAULT ahead of the call, another one than is due behind it, unless it is to stay.
        if (fault == SIZE && NAMING_FAULTS.contains(name)) {
            x.cell(0, -1, 0);
        } else {
            x.sheet(0, 0, -1);
        }
        String row = scene + " " + Face.text(name, args);
        due(row, Face.call(x, name, args), want);
        due("fault() behind " + row, x.fault(), fault);
        due("all behind " + row, Scene.all(x), untouched.computeIfAbsent(scene, s -> Scene.all(s.make())));
    }

    /** Ends the test: every promise from the first to the last must have had a sentence. */
    void end(int first, int last) {
        for (int promise = first; promise <= last; promise++) {
            check.due("a sentence of promise " + promise, named.contains(promise) ? 1 : 0, 1);
        }
        check.end();
    }
}
