import java.util.function.IntSupplier;

/** Holds answers against those that are due, and tells at the end whether all were so. */
final class Check {
    static final Class<? extends RuntimeException> ARGUMENT = IllegalArgumentException.class;
    static final Class<? extends RuntimeException> STATE = IllegalStateException.class;
    static final Class<? extends RuntimeException> INDEX = IndexOutOfBoundsException.class;

    private int held = 0;
    private int wrong = 0;

    void due(String call, long answer, long want) {
        hold(call, String.valueOf(answer), String.valueOf(want));
    }

    void due(String call, boolean answer, boolean want) {
        hold(call, String.valueOf(answer), String.valueOf(want));
    }

    void due(String call, String answer, String want) {
        hold(call, answer, want);
    }

    /** The call must throw exactly this class, and what can be seen of the chooser must stay. */
    void refused(String call, BootChooser x, Class<? extends RuntimeException> want, IntSupplier made) {
        String before = seen(x);
        String answer;
        try {
            answer = String.valueOf(made.getAsInt());
        } catch (RuntimeException e) {
            answer = e.getClass().getName();
        }
        hold(call, answer, want.getName());
        hold(call + " changes nothing", seen(x), before);
    }

    /** All that the calls that only tell something answer. */
    static String seen(BootChooser x) {
        StringBuilder text = new StringBuilder();
        text.append(x.entries()).append(' ').append(x.next()).append(' ').append(x.running());
        text.append(' ').append(x.isLocked()).append(' ').append(x.register());
        for (int place = 0; place < x.entries(); place++) {
            int entry = x.at(place);
            text.append(" [").append(entry).append(' ').append(x.placeOf(entry));
            text.append(' ').append(x.tries(entry)).append(' ').append(x.foretold(entry)).append(']');
        }
        return text.toString();
    }

    /** The numbers of the entries by the order. */
    static String order(BootChooser x) {
        StringBuilder text = new StringBuilder();
        for (int place = 0; place < x.entries(); place++) {
            text.append(place == 0 ? "" : " ").append(x.at(place));
        }
        return text.toString();
    }

    void end() {
        System.out.println(held + " answers held, " + wrong + " wrong");
        if (wrong != 0) {
            System.exit(1);
        }
    }

    private void hold(String call, String answer, String want) {
        held++;
        if (!answer.equals(want)) {
            wrong++;
            System.out.println(call + " answered " + answer + ", due is " + want);
        }
    }
}
