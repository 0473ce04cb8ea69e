import java.util.ArrayList;
import java.util.List;
import java.util.Map;
import java.util.function.Supplier;

/** Every call with arguments at the edges, in every scene, held against the model, with all that it changed. */
public final class EdgesTest {
    private static final int MIN = Integer.MIN_VALUE;
    private static final int MAX = Integer.MAX_VALUE;
    private static final String[] OF_NOTHING = {"start", "good", "running", "next", "isLocked", "entries", "register"};
    private static final String[] OF_AN_ENTRY = {"remove", "choose", "chooseOnce", "placeOf", "tries", "foretold"};
    private static final int[] NUMBERS = {MIN, -2, -1, 0, 1, 2, 3, 4, 5, 9, 15, 16, 17, 43, 44, 45, 59, 60, 61, MAX};
    private static final int[] ENDS = {MIN, -1, 0, 1, 50, 98, 99, 100, MAX};
    private static final int[] CODES = {MIN, -1, 0, 9, 10, 99, 100, 123, 999, 1000, 9999, 10000, 99999, 100000, 999999,
        1000000, MAX};
    private static final int[][] ADDED = {{MIN, -1, 0, 2, 3, MAX}, {MIN, -1, 0, 99, 100, MAX},
        {MIN, -1, 0, 999, 1000, 999999, 1000000, 999999999, 1000000000, MAX}, {MIN, -1, 0, 1, 2, 3, MAX},
        {MIN, -2, -1, 0, 1, 9, 10, MAX}};

    private static final Check check = new Check();

    public static void main(String[] args) {
        List<Call> calls = edges();
        for (Map.Entry<String, List<Call>> scene : Scenes.all().entrySet()) {
            holdAll(scene.getKey(), scene.getValue(), calls);
        }
        check.end();
    }

    private static void holdAll(String scene, List<Call> before, List<Call> calls) {
        new Run(check, scene).behind(before);
        String untouched = Probes.seen(behind(Program::new, before, null));
        check.due(scene, untouched, Probes.seen(behind(Model::new, before, null)));
        for (Call call : calls) {
            String told = scene + ", " + call;
            String want = call.on(behind(Model::new, before, null).get());
            check.due(told, call.on(behind(Program::new, before, null).get()), want);
            boolean throwing = want.endsWith("Exception");
            check.due(told + " leaves", Probes.seen(behind(Program::new, before, call)),
                    throwing ? untouched : Probes.seen(behind(Model::new, before, call)));
        }
    }

    private static Supplier<Subject> behind(Supplier<Subject> fresh, List<Call> before, Call last) {
        return () -> {
            Subject subject = fresh.get();
            Call.allOn(subject, before);
            if (last != null) {
                last.on(subject);
            }
            return subject;
        };
    }

    private static List<Call> edges() {
        List<Call> calls = new ArrayList<>();
        for (String name : OF_NOTHING) {
            calls.add(new Call(name));
        }
        for (int number : NUMBERS) {
            for (String name : OF_AN_ENTRY) {
                calls.add(new Call(name, number));
            }
            calls.add(new Call("at", number));
        }
        addPairs(calls, "edit", NUMBERS, MIN, -1, 0, 99, 100, MAX);
        addPairs(calls, "compare", NUMBERS, -1, 0, 1, 15, 16, 44, 59, 60);
        addPairs(calls, "setPattern", ENDS, ENDS);
        addPairs(calls, "lock", CODES, MIN, -1, 0, 1, 2, 3, 4, 5, 6, 7, MAX);
        for (int digit : new int[] {MIN, -1, 0, 1, 2, 3, 9, 10, MAX}) {
            calls.add(new Call("enter", digit));
        }
        addAdds(calls);
        return calls;
    }

    private static void addPairs(List<Call> calls, String name, int[] firsts, int... seconds) {
        for (int first : firsts) {
            for (int second : seconds) {
                calls.add(new Call(name, first, second));
            }
        }
    }

    /** One argument at each of its edges, and two at once. */
    private static void addAdds(List<Call> calls) {
        for (int i = 0; i < ADDED.length; i++) {
            for (int edge : ADDED[i]) {
                int[] one = {1, 50, 500500500, 1, 5};
                one[i] = edge;
                calls.add(new Call("add", one.clone()));
                int other = (i + 1) % ADDED.length;
                for (int otherEdge : ADDED[other]) {
                    one[other] = otherEdge;
                    calls.add(new Call("add", one.clone()));
                }
            }
        }
    }
}
