/** Promises 20 and 21: foretold, register. */
public final class MeasuresTest {
    private static final int NONE = BootChooser.NONE;
    private static final int PLAIN = BootChooser.PLAIN;
    private static final Check check = new Check();

    public static void main(String[] args) {
        promise20Foretold();
        promise20ForetoldByTheState();
        promise20ForetoldRefuses();
        promise21Register();
        promise21RegisterStays();
        check.end();
    }

    private static void promise20Foretold() {
        BootChooser x = new BootChooser();
        x.add(0, 5, 1002003, BootChooser.LATER, 1);
        x.add(2, 99, 999999999, BootChooser.EARLIER, NONE);
        x.add(1, 0, 0, PLAIN, 0);
        x.add(1, 17, 12345678, PLAIN, 3);
        check.due("foretold(0)", x.foretold(0), 879268);
        check.due("foretold(0)", x.foretold(0), Measures.chain(0, 0, 1, 2, 3, 2, 5, 0));
        check.due("foretold(1)", x.foretold(1), Measures.chain(0, 2, 999, 999, 999, 0, 99, 0));
        check.due("foretold(2)", x.foretold(2), Measures.chain(0, 1, 0, 0, 0, 1, 0, 0));
        check.due("foretold(3)", x.foretold(3), Measures.chain(0, 1, 12, 345, 678, 1, 17, 0));
        check.due("register() stays", x.register(), 0);
        check.due("tries(0) stays", x.tries(0), 1);
    }

    private static void promise20ForetoldByTheState() {
        BootChooser x = new BootChooser();
        x.add(2, 8, 7006005, PLAIN, 3);
        x.edit(0, 99);
        check.due("foretold(0), edited", x.foretold(0), Measures.chain(0, 2, 7, 6, 5, 1, 8, 99));
        x.lock(4, 1);
        check.due("foretold(0), locked", x.foretold(0), Measures.chain(1, 2, 7, 6, 5, 1, 8, 99));
        x.start();
        check.due("foretold(0) behind a start", x.foretold(0), Measures.chain(1, 2, 7, 6, 5, 1, 8, 99));
        x.enter(4);
        check.due("foretold(0), unlocked", x.foretold(0), Measures.chain(0, 2, 7, 6, 5, 1, 8, 99));
    }

    private static void promise20ForetoldRefuses() {
        BootChooser x = new BootChooser();
        check.refused("foretold(0)", x, Check.INDEX, () -> x.foretold(0));
        x.add(0, 0, 0, PLAIN, NONE);
        check.refused("foretold(1)", x, Check.INDEX, () -> x.foretold(1));
        check.refused("foretold(NONE)", x, Check.INDEX, () -> x.foretold(NONE));
        x.start();
        x.remove(0);
        check.refused("foretold(0)", x, Check.INDEX, () -> x.foretold(0));
    }

    private static void promise21Register() {
        BootChooser x = new BootChooser();
        check.due("register()", x.register(), 0);
        x.add(0, 5, 1002003, PLAIN, 1);
        x.add(1, 6, 4005006, PLAIN, NONE);
        int foretold = x.foretold(0);
        x.start();
        check.due("register()", x.register(), foretold);
        check.due("register()", x.register(), Measures.chain(0, 0, 1, 2, 3, 1, 5, 0));
        x.lock(1, 1);
        x.start();
        check.due("register() of another start", x.register(), Measures.chain(1, 1, 4, 5, 6, 1, 6, 0));
        x.start();
        check.due("register() begins at 0 again", x.register(), Measures.chain(1, 1, 4, 5, 6, 1, 6, 0));
    }

    private static void promise21RegisterStays() {
        BootChooser x = new BootChooser();
        x.add(0, 5, 1002003, PLAIN, 1);
        x.start();
        int left = x.register();
        x.edit(0, 9);
        check.due("register() behind edit", x.register(), left);
        x.lock(1, 1);
        check.due("register() behind lock", x.register(), left);
        x.good();
        check.due("register() behind good", x.register(), left);
        x.remove(0);
        check.due("register() behind remove", x.register(), left);
        check.refused("start()", x, Check.STATE, x::start);
        check.due("register() behind a refused start", x.register(), left);
    }
}
