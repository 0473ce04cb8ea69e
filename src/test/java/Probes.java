import java.util.List;
import java.util.function.BiConsumer;
import java.util.function.Supplier;

/** Tells all that a subject holds, also what only later calls show: each probe uses up a subject of its own. */
final class Probes {
    private static final int MOST_EVER = 60;
    private static final int[] NAMES = {0, 99, 50, 1, 98, 4, 5, 6, 19, 20, 21, 49, 51, 10, 11, 30};
    private static final List<BiConsumer<Subject, StringBuilder>> ALL = List.of(Probes::whatIsTold,
            Probes::bothChoices, Probes::nextOnes, Probes::someStarts, Probes::numbersLeft, Probes::restOfTheCode,
            Probes::digitsLeft, Probes::thePattern);

    private Probes() {
    }

    static String seen(Supplier<Subject> subjects) {
        StringBuilder text = new StringBuilder();
        for (BiConsumer<Subject, StringBuilder> probe : ALL) {
            probe.accept(subjects.get(), text.append('|'));
        }
        return text.toString();
    }

    private static void whatIsTold(Subject x, StringBuilder text) {
        tell(x, text, "next");
        tell(x, text, "running");
        tell(x, text, "isLocked");
        tell(x, text, "register");
        int entries = tell(x, text, "entries");
        int ahead = -1;
        for (int place = 0; place < entries; place++) {
            int entry = tell(x, text, "at", place);
            tell(x, text, "placeOf", entry);
            tell(x, text, "tries", entry);
            tell(x, text, "foretold", entry);
            if (place > 0) {
                tell(x, text, "compare", ahead, entry);
            }
            ahead = entry;
        }
        tell(x, text, "at", entries);
    }

    private static void bothChoices(Subject x, StringBuilder text) {
        tell(x, text, "chooseOnce", -1);
        tell(x, text, "next");
        tell(x, text, "choose", -1);
    }

    /** One after the other is taken away, so that the next one shows: choices, pattern, order. */
    private static void nextOnes(Subject x, StringBuilder text) {
        int entries = tell(x, text, "entries");
        for (int i = 0; i < entries; i++) {
            tell(x, text, "remove", tell(x, text, "next"));
        }
    }

    private static void someStarts(Subject x, StringBuilder text) {
        tell(x, text, "good");
        for (int i = 0; i < 24; i++) {
            tell(x, text, "start");
            tell(x, text, "register");
            tell(x, text, "tries", tell(x, text, "running"));
        }
        tell(x, text, "good");
        tell(x, text, "next");
    }

    private static void numbersLeft(Subject x, StringBuilder text) {
        removeAll(x, text);
        for (int i = 0; i <= MOST_EVER; i++) {
            String number = x.answer("add", 0, 0, 0, 1, 1);
            text.append(number).append(' ');
            if (number.equals("IllegalStateException")) {
                return;
            }
            tell(x, text, "remove", Integer.parseInt(number));
        }
    }

    /** The rest of the code 123 if its first two digits are entered, and the whole one. */
    private static void restOfTheCode(Subject x, StringBuilder text) {
        for (int digit : new int[] {3, 1, 2, 3}) {
            tell(x, text, "enter", digit);
        }
        tell(x, text, "isLocked");
    }

    private static void digitsLeft(Subject x, StringBuilder text) {
        for (int i = 0; i < 13; i++) {
            tell(x, text, "enter", 9);
        }
    }

    private static void thePattern(Subject x, StringBuilder text) {
        removeAll(x, text);
        tell(x, text, "chooseOnce", -1);
        tell(x, text, "choose", -1);
        for (int i = 0; i < NAMES.length; i++) {
            tell(x, text, "foretold", tell(x, text, "add", 0, NAMES[i], NAMES.length - i, 1, -1));
        }
        nextOnes(x, text);
    }

    private static void removeAll(Subject x, StringBuilder text) {
        int entries = tell(x, text, "entries");
        for (int i = 0; i < entries; i++) {
            tell(x, text, "remove", tell(x, text, "at", 0));
        }
    }

    /** Returns the answer if it is a number, and NONE otherwise. */
    private static int tell(Subject x, StringBuilder text, String name, int... arguments) {
        String answer = x.answer(name, arguments);
        text.append(answer).append(' ');
        boolean isNumber = Character.isDigit(answer.charAt(answer.length() - 1));
        return isNumber ? Integer.parseInt(answer) : BootChooser.NONE;
    }
}
