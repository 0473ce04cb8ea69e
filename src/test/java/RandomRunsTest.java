import java.util.Random;
import java.util.function.IntSupplier;

/** Runs of 512 calls, the same ones each time, held against the model; all promises. */
public final class RandomRunsTest {
    private static final int RUNS = 3000;
    private static final int CALLS = 512;
    private static final int[] ODD = {Integer.MIN_VALUE, Integer.MIN_VALUE + 1, -1000, -2, -1, 10, 16, 60, 100, 1000,
        999999, 1000000, 1000000000, Integer.MAX_VALUE};

    private final Random random;
    private final BootChooser x = new BootChooser();
    private final Model m = new Model();
    /** In a wild run more arguments are wrong; in a tame one fewer entries and digits come up. */
    private final boolean wild;
    private String call = "";

    private RandomRunsTest(int seed) {
        random = new Random(seed);
        wild = seed % 5 == 0;
    }

    public static void main(String[] args) {
        int wrong = 0;
        for (int seed = 0; seed < RUNS && wrong < 5; seed++) {
            if (!new RandomRunsTest(seed).holds(seed)) {
                wrong++;
            }
        }
        System.out.println(RUNS + " runs, " + wrong + " wrong");
        if (wrong != 0) {
            System.exit(1);
        }
    }

    private boolean holds(int seed) {
        for (int i = 0; i < CALLS; i++) {
            IntSupplier[] both = nextCall();
            String answer = answer(both[0]);
            String want = answer(both[1]);
            if (!answer.equals(want)) {
                System.out.println("run " + seed + ", call " + i + ": " + call + " answered " + answer
                        + ", due is " + want);
                return false;
            }
        }
        return true;
    }

    private static String answer(IntSupplier made) {
        try {
            return String.valueOf(made.getAsInt());
        } catch (RuntimeException e) {
            return e.getClass().getName();
        }
    }

    private IntSupplier[] both(String name, IntSupplier ours, IntSupplier theirs) {
        call = name;
        return new IntSupplier[] {ours, theirs};
    }

    private IntSupplier[] nextCall() {
        int which = random.nextInt(100);
        if (which < 35) {
            return changing(which);
        }
        if (which < 60) {
            return starting(which);
        }
        return telling(which);
    }

    private IntSupplier[] changing(int which) {
        int e = entry();
        if (which < 11) {
            int kind = or(random.nextInt(wild ? 3 : 2));
            int name = or(random.nextInt(4) == 0 ? random.nextInt(100) : random.nextInt(3));
            int version = or(version());
            int mark = or(random.nextInt(3));
            int tries = or(random.nextInt(3) == 0 ? -1 : random.nextInt(random.nextInt(9) + 2));
            return both("add(" + kind + ", " + name + ", " + version + ", " + mark + ", " + tries + ")",
                    () -> x.add(kind, name, version, mark, tries), () -> m.add(kind, name, version, mark, tries));
        }
        if (which < 17) {
            return both("remove(" + e + ")", () -> x.remove(e), () -> m.remove(e));
        }
        if (which < 22) {
            int option = or(random.nextInt(100));
            return both("edit(" + e + ", " + option + ")", () -> x.edit(e, option), () -> m.edit(e, option));
        }
        if (which < 26) {
            return both("choose(" + e + ")", () -> x.choose(e), () -> m.choose(e));
        }
        if (which < 31) {
            return both("chooseOnce(" + e + ")", () -> x.chooseOnce(e), () -> m.chooseOnce(e));
        }
        int from = or(random.nextInt(4));
        int to = or(random.nextInt(3) == 0 ? 99 : random.nextInt(6));
        return both("setPattern(" + from + ", " + to + ")", () -> x.setPattern(from, to), () -> m.setPattern(from, to));
    }

    private IntSupplier[] starting(int which) {
        if (which < 42) {
            return both("start()", x::start, m::start);
        }
        if (which < 44) {
            return both("good()", x::good, m::good);
        }
        if (which < 47) {
            int many = or(random.nextInt(4) == 0 ? random.nextInt(6) + 1 : random.nextInt(3) + 1);
            int code = or(random.nextInt(2) == 0 ? random.nextInt(2) : random.nextInt(120));
            return both("lock(" + code + ", " + many + ")", () -> {
                x.lock(code, many);
                return 0;
            }, () -> m.lock(code, many));
        }
        int digit = or(random.nextInt(6) == 0 ? random.nextInt(10) : random.nextInt(2));
        return both("enter(" + digit + ")", () -> x.enter(digit) ? 1 : 0, () -> m.enter(digit));
    }

    private IntSupplier[] telling(int which) {
        int e = entry();
        int other = entry();
        int place = or(random.nextInt(12));
        switch (which % 10) {
            case 0: return both("running()", x::running, m::running);
            case 1: return both("next()", x::next, m::next);
            case 2: return both("isLocked()", () -> x.isLocked() ? 1 : 0, m::isLocked);
            case 3: return both("entries()", x::entries, m::entries);
            case 4: return both("at(" + place + ")", () -> x.at(place), () -> m.at(place));
            case 5: return both("placeOf(" + e + ")", () -> x.placeOf(e), () -> m.placeOf(e));
            case 6: return both("tries(" + e + ")", () -> x.tries(e), () -> m.tries(e));
            case 7: return both("compare(" + e + ", " + other + ")", () -> x.compare(e, other),
                    () -> m.compare(e, other));
            case 8: return both("foretold(" + e + ")", () -> x.foretold(e), () -> m.foretold(e));
            default: return both("register()", x::register, m::register);
        }
    }

    /** Mostly one that is there. */
    private int entry() {
        if (m.entries() > 0 && random.nextInt(10) != 0) {
            return m.at(random.nextInt(m.entries()));
        }
        return random.nextInt(3) == 0 ? -1 : or(random.nextInt(64) - 2);
    }

    /** Few versions, so that many are the same in all parts or in some. */
    private int version() {
        if (random.nextInt(6) == 0) {
            return random.nextInt(1000000000);
        }
        return random.nextInt(2) * 1000000 + random.nextInt(2) * 1000 + random.nextInt(2) * (wild ? 999 : 1);
    }

    private int or(int usual) {
        int odds = wild ? 12 : 80;
        return random.nextInt(odds) == 0 ? ODD[random.nextInt(ODD.length)] : usual;
    }
}
