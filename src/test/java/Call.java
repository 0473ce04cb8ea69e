import java.util.Arrays;
import java.util.List;

/** One call, kept so that it can be made again on other subjects. */
record Call(String name, int... arguments) {
    String on(Subject subject) {
        return subject.answer(name, arguments);
    }

    static void allOn(Subject subject, List<Call> calls) {
        for (Call call : calls) {
            call.on(subject);
        }
    }

    @Override
    public String toString() {
        String listed = Arrays.toString(arguments);
        return name + "(" + listed.substring(1, listed.length() - 1) + ")";
    }
}
