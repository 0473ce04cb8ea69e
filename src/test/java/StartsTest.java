/** Promises 8 to 11: start, good, running, next. */
public final class StartsTest {
    private static final int NONE = BootChooser.NONE;
    private static final int PLAIN = BootChooser.PLAIN;
    private static final Check check = new Check();

    public static void main(String[] args) {
        promise8StartUsesTries();
        promise8StartOfOneNotCounted();
        promise8StartRefuses();
        promise8StartTakesTheChoiceForOneTime();
        promise9Good();
        promise9GoodOfOneThatIsGone();
        promise9GoodRefuses();
        promise10Running();
        promise11NextGoesDownTheList();
        promise11NextIfAllAreBad();
        check.end();
    }

    private static void promise8StartUsesTries() {
        BootChooser x = new BootChooser();
        x.add(0, 0, 1, PLAIN, 2);
        x.add(0, 0, 0, PLAIN, 1);
        check.due("start()", x.start(), 0);
        check.due("tries(0)", x.tries(0), 1);
        check.due("start()", x.start(), 0);
        check.due("tries(0)", x.tries(0), 0);
        check.due("start()", x.start(), 1);
        check.due("tries(1)", x.tries(1), 0);
        check.due("start(), all bad", x.start(), 0);
        check.due("tries(0) stays", x.tries(0), 0);
    }

    private static void promise8StartOfOneNotCounted() {
        BootChooser x = new BootChooser();
        x.add(0, 0, 0, PLAIN, NONE);
        x.start();
        x.start();
        check.due("tries(0)", x.tries(0), NONE);
    }

    private static void promise8StartRefuses() {
        BootChooser x = new BootChooser();
        check.refused("start()", x, Check.STATE, x::start);
        x.add(0, 0, 0, PLAIN, 5);
        x.add(0, 1, 0, PLAIN, 5);
        x.start();
        x.chooseOnce(1);
        x.remove(1);
        x.remove(0);
        check.refused("start() again", x, Check.STATE, x::start);
        check.due("running()", x.running(), 0);
        check.due("a refused start keeps the choice", x.chooseOnce(NONE), 1);
    }

    private static void promise8StartTakesTheChoiceForOneTime() {
        BootChooser x = new BootChooser();
        x.add(0, 0, 0, PLAIN, NONE);
        x.add(0, 1, 0, PLAIN, 3);
        x.chooseOnce(1);
        check.due("start()", x.start(), 1);
        check.due("tries(1)", x.tries(1), 2);
        check.due("start()", x.start(), 0);
        check.due("tries(1)", x.tries(1), 2);
    }

    private static void promise9Good() {
        BootChooser x = new BootChooser();
        x.add(0, 0, 1, PLAIN, 3);
        x.add(0, 0, 0, PLAIN, 9);
        x.start();
        check.due("good()", x.good(), 2);
        check.due("tries(0)", x.tries(0), NONE);
        check.due("good() again", x.good(), NONE);
        check.due("tries(1) stays", x.tries(1), 9);
        x.choose(1);
        for (int i = 0; i < 8; i++) {
            x.start();
        }
        check.due("good()", x.good(), 1);
        x.add(0, 0, 2, PLAIN, 1);
        x.choose(NONE);
        check.due("start()", x.start(), 2);
        check.due("a bad one is last", Check.order(x), "0 1 2");
        check.due("good() of a bad one", x.good(), 0);
        check.due("it is bad no more", Check.order(x), "2 0 1");
    }

    private static void promise9GoodOfOneThatIsGone() {
        BootChooser x = new BootChooser();
        x.add(0, 0, 0, PLAIN, 3);
        x.start();
        x.remove(0);
        x.add(0, 0, 0, PLAIN, 4);
        check.due("good()", x.good(), NONE);
        check.due("tries(1)", x.tries(1), 4);
        check.due("running()", x.running(), 0);
    }

    private static void promise9GoodRefuses() {
        BootChooser x = new BootChooser();
        check.refused("good()", x, Check.STATE, x::good);
        x.add(0, 0, 0, PLAIN, 3);
        check.refused("good() without a start", x, Check.STATE, x::good);
    }

    private static void promise10Running() {
        BootChooser x = new BootChooser();
        x.add(0, 0, 0, PLAIN, NONE);
        x.add(0, 1, 0, PLAIN, NONE);
        check.due("running()", x.running(), NONE);
        x.start();
        check.due("running()", x.running(), 0);
        x.choose(1);
        check.due("running() stays", x.running(), 0);
        x.good();
        check.due("running() stays", x.running(), 0);
        x.start();
        check.due("running()", x.running(), 1);
        x.remove(1);
        check.due("running() of one that is gone", x.running(), 1);
        x.start();
        check.due("running()", x.running(), 0);
    }

    private static void promise11NextGoesDownTheList() {
        BootChooser x = new BootChooser();
        check.due("next()", x.next(), NONE);
        x.add(0, 1, 5, PLAIN, NONE);
        x.add(0, 2, 4, PLAIN, NONE);
        x.add(0, 3, 3, PLAIN, NONE);
        x.add(0, 4, 2, PLAIN, 0);
        x.setPattern(2, 4);
        check.due("by the pattern", x.next(), 1);
        x.choose(2);
        check.due("by the choice that stays", x.next(), 2);
        x.choose(3);
        check.due("the choice that stays is bad", x.next(), 1);
        x.chooseOnce(3);
        check.due("by the choice for one time, a bad one", x.next(), 3);
        check.due("next() changes nothing", x.next(), 3);
        check.due("nothing runs", x.running(), NONE);
        x.remove(3);
        check.due("both choices are gone", x.next(), 1);
        x.remove(1);
        check.due("the next that fits", x.next(), 2);
        x.remove(2);
        check.due("nothing fits", x.next(), 0);
        x.remove(0);
        check.due("no entries", x.next(), NONE);
    }

    private static void promise11NextIfAllAreBad() {
        BootChooser x = new BootChooser();
        x.add(2, 0, 9, PLAIN, 0);
        x.add(1, 1, 1, PLAIN, 0);
        x.add(1, 2, 2, PLAIN, 0);
        check.due("next()", x.next(), 2);
        x.choose(0);
        check.due("next() with a bad choice", x.next(), 2);
        x.setPattern(0, 1);
        check.due("next() with a pattern of bad ones", x.next(), 2);
    }
}
