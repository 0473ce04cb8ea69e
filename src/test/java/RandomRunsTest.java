import java.util.Random;

/** Runs of 512 calls, the same ones each time, held against the model; all promises. */
public final class RandomRunsTest {
    private static final int RUNS = 3000;
    private static final int CALLS = 512;
    private static final int[] ODD = {Integer.MIN_VALUE, Integer.MIN_VALUE + 1, -1000, -2, -1, 10, 16, 60, 100, 1000,
        999999, 1000000, 1000000000, Integer.MAX_VALUE};

    private final Random random;
    private final Program x = new Program();
    private final Model m = new Model();
    /** In a wild run more arguments are wrong; in a tame one fewer entries and digits come up. */
    private final boolean wild;

    private RandomRunsTest(int seed) {
        random = new Random(seed);
        wild = seed % 5 == 0;
    }

    public static void main(String[] args) {
        int wrong = 0;
        for (int seed = 0; seed < RUNS && wrong < 5; seed++) {
            if (!new RandomRunsTest(seed).holds(seed)) {
                wrong++;
            }
        }
        System.out.println(RUNS + " runs, " + wrong + " wrong");
        if (wrong != 0) {
            System.exit(1);
        }
    }

    private boolean holds(int seed) {
        for (int i = 0; i < CALLS; i++) {
            Call call = nextCall();
            String answer = call.on(x);
            String want = call.on(m);
            if (!answer.equals(want)) {
                System.out.println("run " + seed + ", call " + i + ": " + call + " answered " + answer
                        + ", due is " + want);
                return false;
            }
        }
        return true;
    }

    private Call nextCall() {
        int which = random.nextInt(100);
        if (which < 35) {
            return changing(which);
        }
        if (which < 60) {
            return starting(which);
        }
        return telling(which);
    }

    private Call changing(int which) {
        int e = entry();
        if (which < 11) {
            return adding();
        }
        if (which < 17) {
            return new Call("remove", e);
        }
        if (which < 22) {
            return new Call("edit", e, or(random.nextInt(100)));
        }
        if (which < 26) {
            return new Call("choose", e);
        }
        if (which < 31) {
            return new Call("chooseOnce", e);
        }
        int from = or(random.nextInt(4));
        int to = or(random.nextInt(3) == 0 ? 99 : random.nextInt(6));
        return new Call("setPattern", from, to);
    }

    private Call adding() {
        int kind = or(random.nextInt(wild ? 3 : 2));
        int name = or(random.nextInt(4) == 0 ? random.nextInt(100) : random.nextInt(3));
        int version = or(version());
        int mark = or(random.nextInt(3));
        int tries = or(random.nextInt(3) == 0 ? -1 : random.nextInt(random.nextInt(9) + 2));
        return new Call("add", kind, name, version, mark, tries);
    }

    private Call starting(int which) {
        if (which < 42) {
            return new Call("start");
        }
        if (which < 44) {
            return new Call("good");
        }
        if (which < 47) {
            int many = or(random.nextInt(4) == 0 ? random.nextInt(6) + 1 : random.nextInt(3) + 1);
            int code = or(random.nextInt(2) == 0 ? random.nextInt(2) : random.nextInt(120));
            return new Call("lock", code, many);
        }
        return new Call("enter", or(random.nextInt(6) == 0 ? random.nextInt(10) : random.nextInt(2)));
    }

    private Call telling(int which) {
        int e = entry();
        switch (which % 10) {
            case 0: return new Call("running");
            case 1: return new Call("next");
            case 2: return new Call("isLocked");
            case 3: return new Call("entries");
            case 4: return new Call("at", or(random.nextInt(12)));
            case 5: return new Call("placeOf", e);
            case 6: return new Call("tries", e);
            case 7: return new Call("compare", e, entry());
            case 8: return new Call("foretold", e);
            default: return new Call("register");
        }
    }

    /** Mostly one that is there. */
    private int entry() {
        if (m.entries() > 0 && random.nextInt(10) != 0) {
            return m.at(random.nextInt(m.entries()));
        }
        return random.nextInt(3) == 0 ? -1 : or(random.nextInt(64) - 2);
    }

    /** Few versions, so that many are the same in all parts or in some. */
    private int version() {
        if (random.nextInt(6) == 0) {
            return random.nextInt(1000000000);
        }
        return random.nextInt(2) * 1000000 + random.nextInt(2) * 1000 + random.nextInt(2) * (wild ? 999 : 1);
    }

    private int or(int usual) {
        int odds = wild ? 12 : 80;
        return random.nextInt(odds) == 0 ? ODD[random.nextInt(ODD.length)] : usual;
    }
}
