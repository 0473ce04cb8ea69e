/** Promises 5 to 7: choose, chooseOnce, setPattern. */
public final class ChoicesTest {
    private static final int NONE = BootChooser.NONE;
    private static final int PLAIN = BootChooser.PLAIN;
    private static final Check check = new Check();

    public static void main(String[] args) {
        promise5Choose();
        promise5ChooseKeepsOneThatIsGone();
        promise5ChooseRefuses();
        promise6ChooseOnce();
        promise6ChooseOnceKeepsOneThatIsGone();
        promise6ChooseOnceRefuses();
        promise7SetPattern();
        promise7SetPatternRefuses();
        check.end();
    }

    /** Entries 0, 1, 2 with the names 10, 20, 30, in this order. */
    private static BootChooser three() {
        BootChooser x = new BootChooser();
        x.add(0, 10, 0, PLAIN, NONE);
        x.add(0, 20, 0, PLAIN, NONE);
        x.add(0, 30, 0, PLAIN, 1);
        return x;
    }

    private static void promise5Choose() {
        BootChooser x = three();
        check.due("choose(2)", x.choose(2), NONE);
        check.due("choose(1)", x.choose(1), 2);
        check.due("next()", x.next(), 1);
        check.due("start()", x.start(), 1);
        check.due("start() again", x.start(), 1);
        check.due("choose(NONE)", x.choose(NONE), 1);
        check.due("next()", x.next(), 0);
        check.due("choose(NONE) again", x.choose(NONE), NONE);
    }

    private static void promise5ChooseKeepsOneThatIsGone() {
        BootChooser x = three();
        x.choose(1);
        x.remove(1);
        check.due("next()", x.next(), 0);
        x.start();
        check.due("choose(2)", x.choose(2), 1);
        x.start();
        check.due("next() if the choice is bad", x.next(), 0);
        check.due("choose(2) of a bad one", x.choose(2), 2);
        check.due("next()", x.next(), 0);
        x.chooseOnce(2);
        x.start();
        x.good();
        check.due("next() if it is bad no more", x.next(), 2);
    }

    private static void promise5ChooseRefuses() {
        BootChooser x = three();
        x.choose(1);
        x.remove(1);
        check.refused("choose(1)", x, Check.INDEX, () -> x.choose(1));
        check.refused("choose(3)", x, Check.INDEX, () -> x.choose(3));
        check.refused("choose(-2)", x, Check.INDEX, () -> x.choose(-2));
        check.refused("choose(MIN)", x, Check.INDEX, () -> x.choose(Integer.MIN_VALUE));
        check.refused("choose(MAX)", x, Check.INDEX, () -> x.choose(Integer.MAX_VALUE));
        x.lock(0, 1);
        check.refused("choose(2) when locked", x, Check.STATE, () -> x.choose(2));
        check.refused("choose(NONE) when locked", x, Check.STATE, () -> x.choose(NONE));
        check.refused("choose(3) when locked", x, Check.INDEX, () -> x.choose(3));
        x.enter(0);
        check.due("choose(2) when unlocked", x.choose(2), 1);
    }

    private static void promise6ChooseOnce() {
        BootChooser x = three();
        check.due("chooseOnce(2)", x.chooseOnce(2), NONE);
        check.due("chooseOnce(1)", x.chooseOnce(1), 2);
        check.due("next()", x.next(), 1);
        check.due("chooseOnce(NONE)", x.chooseOnce(NONE), 1);
        check.due("next()", x.next(), 0);
        x.choose(1);
        x.chooseOnce(2);
        check.due("next() against the choice that stays", x.next(), 2);
        check.due("start()", x.start(), 2);
        check.due("next() behind it", x.next(), 1);
        check.due("chooseOnce(2) of a bad one", x.chooseOnce(2), NONE);
        check.due("start() of a bad one", x.start(), 2);
        check.due("chooseOnce(NONE) behind a start", x.chooseOnce(NONE), NONE);
    }

    private static void promise6ChooseOnceKeepsOneThatIsGone() {
        BootChooser x = three();
        x.chooseOnce(1);
        x.remove(1);
        check.due("next()", x.next(), 0);
        check.due("chooseOnce(2)", x.chooseOnce(2), 1);
        x.remove(2);
        check.due("start()", x.start(), 0);
        check.due("chooseOnce(NONE) behind a start of another", x.chooseOnce(NONE), NONE);
    }

    private static void promise6ChooseOnceRefuses() {
        BootChooser x = three();
        x.chooseOnce(0);
        check.refused("chooseOnce(3)", x, Check.INDEX, () -> x.chooseOnce(3));
        check.refused("chooseOnce(-2)", x, Check.INDEX, () -> x.chooseOnce(-2));
        check.refused("chooseOnce(MAX)", x, Check.INDEX, () -> x.chooseOnce(Integer.MAX_VALUE));
        x.remove(0);
        check.refused("chooseOnce(0)", x, Check.INDEX, () -> x.chooseOnce(0));
        x.lock(0, 1);
        check.due("chooseOnce(2) when locked", x.chooseOnce(2), 0);
        check.due("chooseOnce(NONE) when locked", x.chooseOnce(NONE), 2);
    }

    private static void promise7SetPattern() {
        BootChooser x = three();
        check.due("setPattern(0, 99)", x.setPattern(0, 99), 3);
        check.due("setPattern(10, 29)", x.setPattern(10, 29), 2);
        check.due("setPattern(11, 30)", x.setPattern(11, 30), 2);
        check.due("next()", x.next(), 1);
        check.due("setPattern(30, 30)", x.setPattern(30, 30), 1);
        check.due("start()", x.start(), 2);
        check.due("next() if what fits is bad", x.next(), 0);
        check.due("setPattern(30, 99), a bad one", x.setPattern(30, 99), 1);
        check.due("setPattern(31, 99)", x.setPattern(31, 99), 0);
        check.due("next() if nothing fits", x.next(), 0);
        check.due("setPattern(0, 0)", x.setPattern(0, 0), 0);
        check.due("setPattern(99, 99)", x.setPattern(99, 99), 0);
        x.remove(0);
        check.due("setPattern(0, 20), one is gone", x.setPattern(0, 20), 1);
        check.due("setPattern of no entries", new BootChooser().setPattern(0, 99), 0);
    }

    private static void promise7SetPatternRefuses() {
        BootChooser x = three();
        x.setPattern(20, 20);
        int[][] wrong = {{-1, 5}, {100, 100}, {5, 4}, {0, 100}, {0, -1}, {99, 98}, {-5, -1},
            {Integer.MIN_VALUE, Integer.MAX_VALUE}, {Integer.MAX_VALUE, Integer.MIN_VALUE}};
        for (int[] range : wrong) {
            String call = "setPattern(" + range[0] + ", " + range[1] + ")";
            check.refused(call, x, Check.ARGUMENT, () -> x.setPattern(range[0], range[1]));
        }
        x.lock(0, 1);
        check.refused("setPattern(0, 99) when locked", x, Check.STATE, () -> x.setPattern(0, 99));
        check.refused("setPattern(5, 4) when locked", x, Check.ARGUMENT, () -> x.setPattern(5, 4));
        check.due("next()", x.next(), 1);
        x.enter(0);
        check.due("setPattern(0, 99) when unlocked", x.setPattern(0, 99), 3);
        check.due("next()", x.next(), 0);
    }
}
