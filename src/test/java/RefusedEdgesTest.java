import java.util.ArrayList;
import java.util.List;

/**
 * 'Exceptions, of several the first that the call names' and 'What is thrown changes nothing', for every call that can
 * be refused, in states at the borders; and the last of the 512 calls.
 */
public final class RefusedEdgesTest {
    private static final Sentences S = new Sentences();
    private static final String FIRST = "of several the first that the call names";
    private static final String NOTHING = "What is thrown changes nothing";

    /** A state: the axes, the calls that lead to it, and calls that are refused in it because of it. */
    private static final class Scene {
        final String name;
        final int axes;
        final List<String> calls;
        final List<String> refused;

        Scene(String name, int axes, List<String> calls, String... refused) {
            this.name = name;
            this.axes = axes;
            this.calls = calls;
            this.refused = List.of(refused);
        }
    }

    public static void main(String[] args) {
        firstThatTheCallNames();
        for (Scene scene : scenes()) {
            List<String> refused = new ArrayList<>(wrongNumbers(scene.axes));
            refused.addAll(scene.refused);
            for (String row : refused) {
                changesNothing(scene, row);
            }
        }
        lastCall();
        S.end();
    }

    private static List<String> sixty() {
        List<String> rows = new ArrayList<>();
        for (int id = 0; id < 60; id++) {
            rows.add("put " + id + " " + id * 37 % 61 + " " + id * 11 % 13 + " " + id % 7 + " " + id % 5);
        }
        return rows;
    }

    private static void firstThatTheCallNames() {
        S.of("Terms", FIRST, "put: a wrong number and an ID that is LIVE");
        S.run(2, "put 5", "put 5 10001 = argument", "put 5 0 -10001 = argument", "put 5 0 0 10001 = state", "put 5 = state");
        S.of("Terms", FIRST, "put: a wrong number, or a wrong ID, and 60 are LIVE");
        S.run(2, sixty(), "put 60 10001 = argument", "put 60 0 -10001 = argument", "put 100 = argument", "put -1 = argument", "put 60 0 0 10001 = state");
        S.of("Terms", FIRST, "put: a wrong number, an ID that is LIVE, and 60 are");
        S.run(2, sixty(), "put 5 10001 = argument", "put 5 = state");
        S.of("Terms", FIRST, "at: a wrong axis and an ID that is not LIVE");
        S.run(2, "at 5 4 = argument", "at 5 -1 = argument", "at 5 3 = state", "put 5", "put 6", "drop 5", "at 5 4 = argument", "at 5 0 = state");
        S.of("Terms", FIRST, "node: a wrong what and an ID that is not LIVE");
        S.run(2, "node 5 5 = argument", "node 5 -1 = argument", "node 5 4 = state", "put 5", "put 6", "drop 5", "node 5 5 = argument", "node 5 0 = state");
        S.of("Terms", FIRST, "pair: a wrong what and fewer than two");
        S.run(2, "pair 3 = argument", "pair -1 = argument", "pair 2 = state", "put 5", "pair 3 = argument", "pair -1 = argument", "pair 0 = state");
    }

    /** Refused in every state; of numbers that do not count, none is. */
    private static List<String> wrongNumbers(int axes) {
        List<String> rows = Rows.of("put -1 1 = argument", "put 100 1 = argument", "drop -1 = argument", "drop 100 = argument", "at -1 0 = argument",
            "at 100 0 = argument", "at 0 -1 = argument", "at 0 4 = argument", "nearest -1 = argument", "nearest 101 = argument", "within -1 = argument",
            "within MIN = argument", "listed -1 = outside", "listed 100 = outside", "distance -1 = outside", "distance 100 = outside",
            "inBox -1 0 0 0 0 0 = argument", "inBox 0 0 0 " + axes + " 0 0 = argument", "pair -1 = argument", "pair 3 = argument", "parts -1 = argument",
            "parts MIN = argument", "node -1 0 = argument", "node 100 0 = argument", "node 0 -1 = argument", "node 0 5 = argument", "walk -1 = outside",
            "walk 120 = outside", "walk max = outside", "count -1 = argument", "count 8 = argument");
        for (int axis = 0; axis < axes; axis++) {
            String place = "0 ".repeat(axis) + (axis % 2 == 0 ? "10001" : "-10001");
            // 77 is LIVE in no state, 0 in most.
            rows.add("put 77 " + place + " = argument");
            rows.add("put 0 " + place + " = argument");
            rows.add("nearest 3 " + place + " = argument");
            rows.add("nearest 0 " + place + " = argument");
            rows.add("within 9 " + place + " = argument");
        }
        return rows;
    }

    private static List<Scene> scenes() {
        String[] notLive = {"drop 70 = state", "at 70 0 = state", "node 70 0 = state"};
        List<Scene> scenes = new ArrayList<>();
        for (int d = 1; d <= 4; d++) {
            scenes.add(new Scene("a new object of " + d, d, List.of(), "drop 0 = state", "at 0 0 = state", "node 0 0 = state", "pair 0 = state",
                "listed 0 = outside", "distance 0 = outside", "walk 0 = outside"));
        }
        scenes.add(new Scene("one LIVE POINT", 2, Rows.of("put 0 1 1", "nearest 1"), "put 0 = state", "drop 70 = state", "pair 2 = state", "walk 1 = outside",
            "listed 1 = outside", "distance 1 = outside"));
        scenes.add(new Scene("behind the last that went", 2, Rows.of("put 0 1 1", "nearest 1", "drop 0"), "drop 0 = state", "at 0 0 = state", "node 0 0 = state",
            "pair 1 = state", "walk 0 = outside"));
        scenes.add(new Scene("half are DEAD, one more has the root BUILT ANEW", 1, Rows.of("put 0 0", "put 1 -10", "put 2 10", "put 3 20", "within MAX",
            "drop 1", "drop 3"), "put 0 = state", "drop 1 = state", "drop 3 = state", "at 1 0 = state", "node 3 0 = state", "walk 4 = outside",
            "listed 4 = outside"));
        scenes.add(new Scene("the next one to the right leans", 1, Rows.of("put 0 0", "put 1 10", "put 2 20", "nearest 2 9"), "put 0 30 = state",
            "put 2 30 = state", notLive[0], notLive[1], notLive[2], "listed 2 = outside", "distance 2 = outside", "walk 3 = outside"));
        scenes.add(new Scene("DEAD ones below a LIVE root, of 3", 3, Rows.of("put 0 0 0 0", "put 1 5 5 5", "put 2 -5 5 5", "put 3 6 6 6", "put 4 -6 6 6",
            "nearest 4 1 1 1", "drop 1", "drop 4"), "put 0 = state", "put 3 9 = state", "drop 1 = state", "at 4 0 = state", "node 1 4 = state"));
        scenes.add(new Scene("sixty of 4", 4, Rows.of(sixty(), "nearest 7 3 3 3 3"), "put 60 = state", "put 77 1 1 1 1 = state", "put 0 = state",
            "put 59 9 9 9 9 = state", notLive[0], notLive[1], notLive[2], "listed 7 = outside", "distance 7 = outside", "walk 60 = outside"));
        scenes.add(new Scene("sixty and DEAD ones, of 2", 2, Rows.of(sixty(), "drop 5", "drop 15", "put 61 2 2", "put 62 30 30", "within 90 9 9"),
            "put 5 = state", "put 77 = state", "put 61 = state", "drop 5 = state", "at 15 0 = state", "node 5 0 = state"));
        return scenes;
    }

    /** Questions on pages, for all of them on one object would be too many calls; those that change something come last. */
    private static List<List<String>> pages() {
        List<List<String>> pages = new ArrayList<>();
        List<String> first = new ArrayList<>(List.of("looked"));
        for (int what = 0; what <= 7; what++) {
            first.add("count " + what);
        }
        for (int i = 0; i < 61; i++) {
            first.add("listed " + i);
            first.add("distance " + i);
        }
        for (int k = 0; k < 70; k++) {
            first.add("walk " + k);
        }
        first.addAll(List.of("pair 0", "pair 1", "pair 2", "span", "parts 0", "parts 50", "parts MAX", "inBox 0 min max 0 min max", "inBox 0 1 20 0 2 30",
            "nearest 5 2 2 2 2", "looked", "listed 4", "distance 4", "within 100 4 4 4 4", "listed 2", "distance 2", "looked"));
        pages.add(first);
        for (String calls : new String[] {"at 0 1", "at 2 3", "node 0 1", "node 2 3", "node 4"}) {
            String[] words = calls.split(" ");
            List<String> page = new ArrayList<>();
            for (int id = 0; id < 100; id++) {
                for (int i = 1; i < words.length; i++) {
                    page.add(words[0] + " " + id + " " + words[i]);
                }
            }
            pages.add(page);
        }
        // What goes on from there: comes, goes, is BUILT ANEW as if nothing had been refused.
        List<String> later = new ArrayList<>();
        for (int i = 0; i < 12; i++) {
            later.add("put " + (64 + i) + " " + (40 + 10 * i) + " " + i * 5 % 7 + " " + i * 3 % 5 + " " + i);
            later.add("count 5");
            later.add("drop " + i * 2 % 9);
            later.add("count 6");
        }
        for (int k = 0; k < 80; k++) {
            later.add("walk " + k);
        }
        later.addAll(List.of("count 1", "count 2", "count 3", "count 4", "count 7", "put 77 5 5 5 5", "put 0 1 1 1 1", "listed 0", "looked"));
        pages.add(later);
        return pages;
    }

    private static void changesNothing(Scene scene, String row) {
        S.of("Terms", NOTHING, Rows.callOf(row) + " in the state '" + scene.name + "'");
        S.run(scene.axes, scene.calls, row, row);
        for (List<String> page : pages()) {
            NearTree with = new NearTree(scene.axes);
            NearTree without = new NearTree(scene.axes);
            for (String call : scene.calls) {
                Rows.answer(with, Rows.callOf(call));
                Rows.answer(without, Rows.callOf(call));
            }
            Rows.answer(with, Rows.callOf(row));
            for (String question : page) {
                S.same(question + " behind it", Rows.answer(with, question), Rows.answer(without, question));
            }
            S.same("calls within bounds", scene.calls.size() + 1 + page.size() <= Sentences.MOST_CALLS, true);
        }
    }

    private static void lastCall() {
        String words = "An object is used for at most 512 calls after it has been made";
        S.of("What it is", words, "the last one, when all were comings and goings");
        List<String> rows = new ArrayList<>();
        for (int i = 0; i < 255; i++) {
            rows.add("put " + i % 100 + " " + i + " = 1");
            rows.add("drop " + i % 100 + " = 0");
        }
        S.run(1, rows, "count 6 = 255", "put 9 = 1");
        S.of("What it is", words, "the last one, when all but sixty were searches");
        List<String> searches = new ArrayList<>(sixty());
        while (searches.size() < 510) {
            searches.add("nearest 100 5 5 5 5 = 60");
        }
        S.run(4, searches, "looked = 60", "listed 60 = outside");
        S.of("What it is", words, "the last one, when all NODES went and came again");
        List<String> tides = new ArrayList<>();
        for (int i = 0; i < 250; i++) {
            if (i >= 50) {
                tides.add("drop " + i % 50 + " = 49");
            }
            tides.add("put " + i % 50 + " " + i * 7 % 101 + " " + i % 3 + " = " + Math.min(50, i + 1));
        }
        S.run(2, tides, "count 1 = 50", "within MAX = 50");
    }
}
