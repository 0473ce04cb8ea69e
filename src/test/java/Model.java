import java.util.ArrayList;
import java.util.Comparator;
import java.util.List;

/** The document's words told a second time, with the Java library and without care for speed. */
final class Model implements Subject {
    static final class Entry {
        int number;
        int kind;
        int name;
        List<Integer> version;
        int option;
        int tries;
    }

    private static final Comparator<Entry> BY_VERSION = (a, b) -> {
        for (int i = 0; i < 4; i++) {
            int part = a.version.get(i).compareTo(b.version.get(i));
            if (part != 0) {
                return part;
            }
        }
        return 0;
    };

    private static final Comparator<Entry> ORDER = Comparator.comparing((Entry e) -> e.tries == 0)
            .thenComparing(e -> e.kind)
            .thenComparing(BY_VERSION.reversed())
            .thenComparing(e -> e.name)
            .thenComparing(e -> e.number);

    private final List<Entry> entries = new ArrayList<>();
    private int ever = 0;
    private Integer staying = null;
    private Integer once = null;
    private int from = 0;
    private int to = 99;
    private Integer running = null;
    private String code = null;
    private String digits = "";
    private long register = 0;

    @Override
    public String answer(String name, int... arguments) {
        try {
            return made(name, arguments);
        } catch (RuntimeException e) {
            return e.getClass().getSimpleName();
        }
    }

    private String made(String name, int[] a) {
        switch (name) {
            case "add": return String.valueOf(add(a[0], a[1], a[2], a[3], a[4]));
            case "remove": return String.valueOf(remove(a[0]));
            case "edit": return String.valueOf(edit(a[0], a[1]));
            case "choose": return String.valueOf(choose(a[0]));
            case "chooseOnce": return String.valueOf(chooseOnce(a[0]));
            case "setPattern": return String.valueOf(setPattern(a[0], a[1]));
            case "start": return String.valueOf(start());
            case "good": return String.valueOf(good());
            case "running": return String.valueOf(running());
            case "next": return String.valueOf(next());
            case "lock":
                lock(a[0], a[1]);
                return "done";
            case "enter": return String.valueOf(enter(a[0]));
            case "isLocked": return String.valueOf(isLocked());
            case "entries": return String.valueOf(entries());
            case "at": return String.valueOf(at(a[0]));
            case "placeOf": return String.valueOf(placeOf(a[0]));
            case "tries": return String.valueOf(tries(a[0]));
            case "compare": return String.valueOf(compare(a[0], a[1]));
            case "foretold": return String.valueOf(foretold(a[0]));
            case "register": return String.valueOf(register());
            default: throw new AssertionError("there is no call " + name);
        }
    }

    int add(int kind, int name, int version, int mark, int tries) {
        argument(kind >= 0 && kind < 3 && name >= 0 && name < 100);
        argument(version >= 0 && version < 1000000000);
        argument(mark == 0 || mark == 1 || mark == 2);
        argument(tries >= -1 && tries < 10);
        state(entries.size() < 16 && ever < 60);
        Entry e = new Entry();
        e.number = ever++;
        e.kind = kind;
        e.name = name;
        String written = String.format("%09d", version);
        e.version = List.of(Integer.parseInt(written.substring(0, 3)), Integer.parseInt(written.substring(3, 6)),
                Integer.parseInt(written.substring(6)), mark);
        e.tries = tries;
        entries.add(e);
        return e.number;
    }

    int remove(int entry) {
        entries.remove(need(entry));
        return entries.size();
    }

    int edit(int entry, int option) {
        Entry e = need(entry);
        argument(option >= 0 && option < 100);
        state(code == null);
        int before = e.option;
        e.option = option;
        return before;
    }

    int choose(int entry) {
        Integer chosen = entry == -1 ? null : Integer.valueOf(need(entry).number);
        state(code == null);
        int before = orNone(staying);
        staying = chosen;
        return before;
    }

    int chooseOnce(int entry) {
        Integer chosen = entry == -1 ? null : Integer.valueOf(need(entry).number);
        int before = orNone(once);
        once = chosen;
        return before;
    }

    int setPattern(int newFrom, int newTo) {
        argument(newFrom >= 0 && newFrom <= newTo && newTo < 100);
        state(code == null);
        from = newFrom;
        to = newTo;
        return (int) entries.stream().filter(this::fits).count();
    }

    int start() {
        state(!entries.isEmpty());
        Entry e = need(next());
        register = foretold(e.number);
        once = null;
        running = e.number;
        e.tries = e.tries > 0 ? e.tries - 1 : e.tries;
        digits = "";
        return e.number;
    }

    int good() {
        state(running != null);
        Entry e = find(running);
        int before = e == null ? -1 : e.tries;
        if (e != null) {
            e.tries = -1;
        }
        return before;
    }

    int running() {
        return orNone(running);
    }

    int next() {
        if (entries.isEmpty()) {
            return -1;
        }
        if (once != null && find(once) != null) {
            return once;
        }
        if (staying != null && find(staying) != null && find(staying).tries != 0) {
            return staying;
        }
        List<Entry> order = ordered();
        return order.stream().filter(e -> fits(e) && e.tries != 0).findFirst().orElse(order.get(0)).number;
    }

    void lock(int newCode, int many) {
        argument(many >= 1 && many <= 6 && newCode >= 0);
        String written = String.format("%0" + many + "d", newCode);
        argument(written.length() == many);
        state(code == null);
        code = written;
        digits = "";
    }

    boolean enter(int digit) {
        argument(digit >= 0 && digit <= 9);
        state(code != null && digits.length() < 12);
        digits += digit;
        if (digits.endsWith(code)) {
            code = null;
            return true;
        }
        return false;
    }

    boolean isLocked() {
        return code != null;
    }

    int entries() {
        return entries.size();
    }

    int at(int place) {
        index(place >= 0 && place < entries.size());
        return ordered().get(place).number;
    }

    int placeOf(int entry) {
        return ordered().indexOf(need(entry));
    }

    int tries(int entry) {
        return need(entry).tries;
    }

    int compare(int entry, int other) {
        return Integer.signum(BY_VERSION.compare(need(entry), need(other)));
    }

    int foretold(int entry) {
        Entry e = need(entry);
        long value = 0;
        for (int n : new int[] {isLocked() ? 1 : 0, e.kind, e.version.get(0), e.version.get(1), e.version.get(2),
            e.version.get(3), e.name, e.option}) {
            value = Math.floorMod(value * 31 + n + 7, 1000003L);
        }
        return (int) value;
    }

    int register() {
        return (int) register;
    }

    private List<Entry> ordered() {
        List<Entry> order = new ArrayList<>(entries);
        order.sort(ORDER);
        return order;
    }

    private boolean fits(Entry e) {
        return from <= e.name && e.name <= to;
    }

    private Entry find(int number) {
        return entries.stream().filter(e -> e.number == number).findAny().orElse(null);
    }

    private Entry need(int number) {
        Entry e = find(number);
        index(e != null);
        return e;
    }

    private static int orNone(Integer number) {
        return number == null ? -1 : number;
    }

    private static void argument(boolean holds) {
        if (!holds) {
            throw new IllegalArgumentException();
        }
    }

    private static void state(boolean holds) {
        if (!holds) {
            throw new IllegalStateException();
        }
    }

    private static void index(boolean holds) {
        if (!holds) {
            throw new IndexOutOfBoundsException();
        }
    }
}
