import java.util.ArrayList;
import java.util.List;

/** A run of calls on a new chooser, each held against what a sentence of the document asks. */
final class Run {
    private final Check check;
    private final String sentence;
    private final Program program = new Program();
    private final List<Call> made = new ArrayList<>();

    Run(Check check, String sentence) {
        this.check = check;
        this.sentence = sentence;
    }

    Run due(int want, String name, int... arguments) {
        return hold(String.valueOf(want), new Call(name, arguments));
    }

    Run due(boolean want, String name, int... arguments) {
        return hold(String.valueOf(want), new Call(name, arguments));
    }

    Run lock(int code, int many) {
        return hold("done", new Call("lock", code, many));
    }

    /** Enters digits one after the other; none may unlock, but for the last one if unlocks is true. */
    Run enter(String digits, boolean unlocks) {
        for (int i = 0; i < digits.length(); i++) {
            due(unlocks && i == digits.length() - 1, "enter", digits.charAt(i) - '0');
        }
        return due(!unlocks, "isLocked");
    }

    /** Calls that must not throw, whatever they answer. */
    Run behind(List<Call> calls) {
        for (Call call : calls) {
            String answer = call.on(program);
            check.due(told(call) + " throws", answer.endsWith("Exception"), false);
            made.add(call);
        }
        return this;
    }

    /** The call throws exactly this exception, and two choosers, one with the call and one without, stay the same. */
    Run refused(Class<?> want, String name, int... arguments) {
        Call call = new Call(name, arguments);
        String told = told(call);
        check.due(told, call.on(program), want.getSimpleName());
        List<Call> with = new ArrayList<>(made);
        with.add(call);
        check.due(told + " changes nothing", seenBehind(with), seenBehind(made));
        return this;
    }

    /** The call with each of these numbers is refused. */
    Run refusedFor(Class<?> want, String name, int... numbers) {
        for (int number : numbers) {
            refused(want, name, number);
        }
        return this;
    }

    private static String seenBehind(List<Call> calls) {
        return Probes.seen(() -> {
            Program fresh = new Program();
            Call.allOn(fresh, calls);
            return fresh;
        });
    }

    private Run hold(String want, Call call) {
        check.due(told(call), call.on(program), want);
        made.add(call);
        return this;
    }

    private String told(Call call) {
        return "\"" + sentence + "\", behind " + made.size() + " calls: " + call;
    }
}
