/** Promises 1 to 4: a new object, add, remove, edit. */
public final class EntriesTest {
    private static final int NONE = BootChooser.NONE;
    private static final int PLAIN = BootChooser.PLAIN;
    private static final Check check = new Check();

    public static void main(String[] args) {
        promise1NewObject();
        promise2AddNumbers();
        promise2AddTakesTheEdges();
        promise2AddRefusesArguments();
        promise2AddRefusesTheSixtyFirst();
        promise2AddWhenLocked();
        promise3Remove();
        promise3RemoveRefuses();
        promise3NumbersAreNotUsedAgain();
        promise4Edit();
        promise4EditRefuses();
        promise4OptionOfANewEntryIsZero();
        check.end();
    }

    private static void promise1NewObject() {
        BootChooser x = new BootChooser();
        check.due("entries()", x.entries(), 0);
        check.due("next()", x.next(), NONE);
        check.due("running()", x.running(), NONE);
        check.due("isLocked()", x.isLocked(), false);
        check.due("register()", x.register(), 0);
        check.due("choose(NONE)", x.choose(NONE), NONE);
        check.due("chooseOnce(NONE)", x.chooseOnce(NONE), NONE);
        check.refused("enter(0)", x, Check.STATE, () -> x.enter(0) ? 1 : 0);
        x.add(0, 0, 0, PLAIN, NONE);
        x.add(0, 99, 1, PLAIN, NONE);
        check.due("next() by the first pattern's end", x.next(), 1);
        x.remove(1);
        check.due("next() by the first pattern's begin", x.next(), 0);
        check.due("entries() of another object", new BootChooser().entries(), 0);
    }

    private static void promise2AddNumbers() {
        BootChooser x = new BootChooser();
        for (int i = 0; i < 16; i++) {
            check.due("add", x.add(i % 3, 15 - i, 1000 * i, i % 3, i % 11 - 1), i);
            check.due("entries()", x.entries(), i + 1);
            check.due("tries", x.tries(i), i % 11 - 1);
        }
    }

    private static void promise2AddTakesTheEdges() {
        BootChooser x = new BootChooser();
        check.due("lowest", x.add(0, 0, 0, BootChooser.EARLIER, NONE), 0);
        check.due("highest", x.add(2, 99, 999999999, BootChooser.LATER, 9), 1);
        check.due("no tries left", x.add(1, 50, 500500500, PLAIN, 0), 2);
        check.due("tries(0)", x.tries(0), NONE);
        check.due("tries(1)", x.tries(1), 9);
        check.due("tries(2)", x.tries(2), 0);
        check.due("order", Check.order(x), "0 1 2");
    }

    private static void promise2AddRefusesArguments() {
        BootChooser x = new BootChooser();
        x.add(0, 0, 0, PLAIN, 1);
        int[] kinds = {-1, 3, Integer.MIN_VALUE, Integer.MAX_VALUE};
        int[] names = {-1, 100, Integer.MIN_VALUE, Integer.MAX_VALUE};
        int[] versions = {-1, 1000000000, Integer.MIN_VALUE, Integer.MAX_VALUE};
        int[] tries = {-2, 10, Integer.MIN_VALUE, Integer.MAX_VALUE};
        for (int i = 0; i < kinds.length; i++) {
            int at = i;
            check.refused("kind " + kinds[i], x, Check.ARGUMENT, () -> x.add(kinds[at], 0, 0, 1, 1));
            check.refused("name " + names[i], x, Check.ARGUMENT, () -> x.add(0, names[at], 0, 1, 1));
            check.refused("version " + versions[i], x, Check.ARGUMENT, () -> x.add(0, 0, versions[at], 1, 1));
            check.refused("mark " + kinds[i], x, Check.ARGUMENT, () -> x.add(0, 0, 0, kinds[at], 1));
            check.refused("tries " + tries[i], x, Check.ARGUMENT, () -> x.add(0, 0, 0, 1, tries[at]));
        }
        check.due("a refused add uses no number", x.add(0, 0, 0, PLAIN, 1), 1);
    }

    private static void promise2AddRefusesTheSixtyFirst() {
        BootChooser x = new BootChooser();
        for (int i = 0; i < 60; i++) {
            check.due("add", x.add(0, 0, 0, PLAIN, NONE), i);
            if (i != 59) {
                check.due("remove", x.remove(i), 0);
            }
        }
        check.refused("the 61st", x, Check.STATE, () -> x.add(0, 0, 0, PLAIN, NONE));
        check.refused("the 61st, wrong", x, Check.ARGUMENT, () -> x.add(0, 0, 0, PLAIN, 10));
        check.due("remove(59)", x.remove(59), 0);
        check.refused("the 61st, of none", x, Check.STATE, () -> x.add(0, 0, 0, PLAIN, NONE));
    }

    private static void promise2AddWhenLocked() {
        BootChooser x = new BootChooser();
        x.lock(1, 1);
        check.due("add when locked", x.add(0, 0, 0, PLAIN, NONE), 0);
        check.due("remove when locked", x.remove(0), 0);
    }

    private static void promise3Remove() {
        BootChooser x = new BootChooser();
        for (int i = 0; i < 4; i++) {
            x.add(0, i, 0, PLAIN, NONE);
        }
        x.start();
        check.due("remove of one that runs", x.remove(0), 3);
        check.due("running()", x.running(), 0);
        check.due("remove(2)", x.remove(2), 2);
        check.due("order", Check.order(x), "1 3");
        check.due("remove(3)", x.remove(3), 1);
        check.due("remove(1)", x.remove(1), 0);
        check.due("entries()", x.entries(), 0);
    }

    private static void promise3RemoveRefuses() {
        BootChooser x = new BootChooser();
        check.refused("remove(0) of none", x, Check.INDEX, () -> x.remove(0));
        check.refused("remove(NONE)", x, Check.INDEX, () -> x.remove(NONE));
        x.add(0, 0, 0, PLAIN, NONE);
        x.add(0, 0, 0, PLAIN, NONE);
        x.remove(0);
        check.refused("remove of one that is gone", x, Check.INDEX, () -> x.remove(0));
        check.refused("remove of one that is not yet", x, Check.INDEX, () -> x.remove(2));
        check.refused("remove(16)", x, Check.INDEX, () -> x.remove(16));
        check.refused("remove(60)", x, Check.INDEX, () -> x.remove(60));
        check.refused("remove(MIN)", x, Check.INDEX, () -> x.remove(Integer.MIN_VALUE));
        check.refused("remove(MAX)", x, Check.INDEX, () -> x.remove(Integer.MAX_VALUE));
    }

    private static void promise3NumbersAreNotUsedAgain() {
        BootChooser x = new BootChooser();
        x.add(0, 0, 0, PLAIN, NONE);
        x.remove(0);
        check.due("add", x.add(0, 0, 0, PLAIN, NONE), 1);
        check.refused("tries(0)", x, Check.INDEX, () -> x.tries(0));
    }

    private static void promise4Edit() {
        BootChooser x = new BootChooser();
        x.add(0, 0, 0, PLAIN, NONE);
        x.add(0, 1, 0, PLAIN, NONE);
        check.due("edit(0, 99)", x.edit(0, 99), 0);
        check.due("edit(1, 7)", x.edit(1, 7), 0);
        check.due("edit(0, 0)", x.edit(0, 0), 99);
        check.due("edit(1, 7)", x.edit(1, 7), 7);
        check.due("edit(1, 8)", x.edit(1, 8), 7);
    }

    private static void promise4EditRefuses() {
        BootChooser x = new BootChooser();
        x.add(0, 0, 0, PLAIN, NONE);
        x.edit(0, 5);
        check.refused("edit(1, 5)", x, Check.INDEX, () -> x.edit(1, 5));
        check.refused("edit(NONE, 5)", x, Check.INDEX, () -> x.edit(NONE, 5));
        check.refused("edit(1, 100)", x, Check.INDEX, () -> x.edit(1, 100));
        check.refused("edit(0, 100)", x, Check.ARGUMENT, () -> x.edit(0, 100));
        check.refused("edit(0, -1)", x, Check.ARGUMENT, () -> x.edit(0, -1));
        x.lock(3, 1);
        check.refused("edit(0, 6) when locked", x, Check.STATE, () -> x.edit(0, 6));
        check.refused("edit(0, 5) when locked", x, Check.STATE, () -> x.edit(0, 5));
        check.refused("edit(0, 100) when locked", x, Check.ARGUMENT, () -> x.edit(0, 100));
        check.refused("edit(1, 100) when locked", x, Check.INDEX, () -> x.edit(1, 100));
        x.enter(3);
        check.due("edit(0, 6) when unlocked", x.edit(0, 6), 5);
    }

    private static void promise4OptionOfANewEntryIsZero() {
        BootChooser x = new BootChooser();
        x.add(0, 0, 0, PLAIN, NONE);
        x.edit(0, 42);
        x.remove(0);
        x.add(0, 0, 0, PLAIN, NONE);
        check.due("edit(1, 1)", x.edit(1, 1), 0);
    }
}
