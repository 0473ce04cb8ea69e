/** A new chooser whose calls are made by name; it is called only as often as the document lets it be called. */
final class Program implements Subject {
    private static final int MOST_CALLS = 512;

    private final BootChooser x = new BootChooser();
    private int calls = 0;

    @Override
    public String answer(String name, int... arguments) {
        calls++;
        if (calls > MOST_CALLS) {
            throw new AssertionError("the test makes more calls than the document promises answers for");
        }
        try {
            return made(name, arguments);
        } catch (RuntimeException e) {
            return e.getClass().getSimpleName();
        }
    }

    private String made(String name, int[] a) {
        switch (name) {
            case "add": return String.valueOf(x.add(a[0], a[1], a[2], a[3], a[4]));
            case "remove": return String.valueOf(x.remove(a[0]));
            case "edit": return String.valueOf(x.edit(a[0], a[1]));
            case "choose": return String.valueOf(x.choose(a[0]));
            case "chooseOnce": return String.valueOf(x.chooseOnce(a[0]));
            case "setPattern": return String.valueOf(x.setPattern(a[0], a[1]));
            case "start": return String.valueOf(x.start());
            case "good": return String.valueOf(x.good());
            case "running": return String.valueOf(x.running());
            case "next": return String.valueOf(x.next());
            case "lock":
                x.lock(a[0], a[1]);
                return "done";
            case "enter": return String.valueOf(x.enter(a[0]));
            case "isLocked": return String.valueOf(x.isLocked());
            case "entries": return String.valueOf(x.entries());
            case "at": return String.valueOf(x.at(a[0]));
            case "placeOf": return String.valueOf(x.placeOf(a[0]));
            case "tries": return String.valueOf(x.tries(a[0]));
            case "compare": return String.valueOf(x.compare(a[0], a[1]));
            case "foretold": return String.valueOf(x.foretold(a[0]));
            case "register": return String.valueOf(x.register());
            default: throw new AssertionError("there is no call " + name);
        }
    }
}
