import java.util.ArrayList;
import java.util.Arrays;
import java.util.LinkedHashMap;
import java.util.List;
import java.util.Map;

/** States of a chooser at the document's edges, as the calls that lead to them. */
final class Scenes {
    private Scenes() {
    }

    static Map<String, List<Call>> all() {
        Map<String, List<Call>> scenes = new LinkedHashMap<>();
        scenes.put("a new object", List.of());
        scenes.put("one entry", List.of(new Call("add", 1, 50, 500500500, 1, 5)));
        scenes.put("one entry, locked", List.of(new Call("add", 1, 50, 5, 1, 1), new Call("lock", 123, 3)));
        scenes.put("all places taken", rich());
        scenes.put("locked, two digits entered", with(rich(), entered(new Call("lock", 123, 3), 1, 2)));
        scenes.put("locked, eleven digits entered",
                with(rich(), entered(new Call("lock", 123, 3), 3, 3, 3, 3, 3, 3, 3, 3, 3, 1, 2)));
        scenes.put("locked, twelve digits entered",
                with(rich(), entered(new Call("lock", 123, 3), 3, 3, 3, 3, 3, 3, 3, 3, 3, 3, 1, 2)));
        scenes.put("locked, digits entered and a start", with(with(rich(),
                entered(new Call("lock", 123, 3), 0, 0, 0, 0, 0, 0, 0, 0, 0, 0, 1, 2)), new Call("start")));
        scenes.put("unlocked behind digits", with(rich(), entered(new Call("lock", 123, 3), 0, 0, 1, 2, 3)));
        scenes.put("all bad", allBad());
        scenes.put("choices and what runs are gone", gone());
        scenes.put("gone and locked", with(gone(), new Call("lock", 999999, 6)));
        List<Call> allGone = with(gone(), new Call("remove", 3), new Call("remove", 4));
        scenes.put("all are gone, locked, two digits entered", with(allGone, entered(new Call("lock", 123, 3), 1, 2)));
        scenes.put("sixty ever, none left", sixtyEver(0));
        scenes.put("sixty ever, one left", sixtyEver(1));
        scenes.put("sixty ever, all places taken", sixtyEver(16));
        return scenes;
    }

    /** Sixteen entries, with choices, a pattern, options and one that runs; some are bad. */
    static List<Call> rich() {
        int[] names = {0, 99, 50, 20, 21, 19, 1, 98, 49, 51, 50, 0, 99, 30, 10, 11};
        List<Call> calls = new ArrayList<>();
        for (int i = 0; i < names.length; i++) {
            int version = i * 7 % 5 * 1000000 + i * 3 % 4 * 1000 + i % 3;
            calls.add(new Call("add", i % 3, names[i], version, i * 5 % 3, i * 4 % 11 - 1));
            calls.add(new Call("edit", i, i * 13 % 100));
        }
        calls.add(new Call("start"));
        calls.add(new Call("setPattern", 20, 50));
        calls.add(new Call("choose", 4));
        calls.add(new Call("chooseOnce", 9));
        return calls;
    }

    private static List<Call> allBad() {
        List<Call> calls = new ArrayList<>();
        for (int i = 0; i < 5; i++) {
            calls.add(new Call("add", i % 2, 40 + i, i % 3, 1, 0));
        }
        calls.add(new Call("setPattern", 41, 43));
        calls.add(new Call("choose", 2));
        return calls;
    }

    private static List<Call> gone() {
        List<Call> calls = new ArrayList<>();
        for (int i = 0; i < 5; i++) {
            calls.add(new Call("add", 0, 40 + i, 10 - i, 1, 3));
        }
        calls.add(new Call("start"));
        calls.add(new Call("choose", 1));
        calls.add(new Call("chooseOnce", 2));
        calls.add(new Call("remove", 0));
        calls.add(new Call("remove", 1));
        calls.add(new Call("remove", 2));
        return calls;
    }

    private static List<Call> sixtyEver(int left) {
        List<Call> calls = new ArrayList<>();
        for (int i = 0; i < 60; i++) {
            if (i >= 16) {
                calls.add(new Call("remove", i - 16));
            }
            calls.add(new Call("add", i % 3, i, i % 7, i % 3, i % 5));
        }
        for (int i = 44; i < 60 - left; i++) {
            calls.add(new Call("remove", i));
        }
        return calls;
    }

    private static List<Call> entered(Call lock, int... digits) {
        List<Call> calls = new ArrayList<>(List.of(lock));
        for (int digit : digits) {
            calls.add(new Call("enter", digit));
        }
        return calls;
    }

    private static List<Call> with(List<Call> first, Call... more) {
        return with(first, Arrays.asList(more));
    }

    private static List<Call> with(List<Call> first, List<Call> more) {
        List<Call> calls = new ArrayList<>(first);
        calls.addAll(more);
        return calls;
    }
}
