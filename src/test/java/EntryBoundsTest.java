/** Promises 1 to 4, each sentence at its edges: a new object, add, remove, edit. */
public final class EntryBoundsTest {
    private static final int NONE = BootChooser.NONE;
    private static final int EARLIER = BootChooser.EARLIER;
    private static final int PLAIN = BootChooser.PLAIN;
    private static final int LATER = BootChooser.LATER;
    private static final int MIN = Integer.MIN_VALUE;
    private static final int MAX = Integer.MAX_VALUE;
    private static final Check check = new Check();

    public static void main(String[] args) {
        promise1NoEntries();
        promise1NoChoices();
        promise1NothingRuns();
        promise1NotLockedAndNoCode();
        promise1TheRegisterIsZero();
        promise1EachObjectIsItsOwn();
        promise2Kind();
        promise2Name();
        promise2Version();
        promise2Mark();
        promise2Tries();
        promise2AllEdgesAtOnce();
        promise2AnArgumentIsOutOfRange();
        promise2ReturnsItsNumber();
        promise2SixteenEntries();
        promise2ThereWereSixty();
        promise3OneThatIsThere();
        promise3AlsoTheOneThatRuns();
        promise3AlsoTheChoices();
        promise3HowManyAreLeft();
        promise3NoSuchEntry();
        promise4OneThatIsThere();
        promise4Option();
        promise4OptionIsOutOfRange();
        promise4TheOptionBefore();
        promise4NoSuchEntry();
        promise4Locked();
        check.end();
    }

    private static Run run(String sentence) {
        return new Run(check, sentence);
    }

    private static void promise1NoEntries() {
        Run run = run("No entries").due(0, "entries").due(NONE, "next").due(0, "setPattern", 0, 99);
        run.refused(Check.INDEX, "at", 0).refused(Check.INDEX, "remove", 0).refused(Check.STATE, "start");
    }

    private static void promise1NoChoices() {
        run("no choices").due(NONE, "choose", NONE).due(NONE, "chooseOnce", NONE);
        Run run = run("no choices").due(0, "add", 2, 99, 0, EARLIER, 1).due(1, "add", 0, 0, 0, PLAIN, 1).due(1, "next");
        run.due(NONE, "choose", 0).due(NONE, "chooseOnce", 1);
    }

    private static void promise1NothingRuns() {
        Run run = run("nothing runs").due(NONE, "running").refused(Check.STATE, "good");
        run.due(0, "add", 0, 0, 0, PLAIN, 1).due(NONE, "running").refused(Check.STATE, "good").due(1, "tries", 0);
    }

    private static void promise1NotLockedAndNoCode() {
        Run run = run("the chooser is not locked and has no code").due(false, "isLocked");
        for (int digit = 0; digit <= 9; digit++) {
            run.refused(Check.STATE, "enter", digit);
        }
        run.due(0, "add", 0, 0, 0, PLAIN, 1).due(0, "edit", 0, 1).due(NONE, "choose", 0).due(1, "setPattern", 0, 0);
        run.lock(0, 1).due(true, "isLocked");
    }

    private static void promise1TheRegisterIsZero() {
        run("the register is 0").due(0, "register").due(0, "add", 1, 1, 1, PLAIN, 1).due(0, "register");
    }

    private static void promise1EachObjectIsItsOwn() {
        Run first = run("A new object").due(0, "add", 0, 0, 0, PLAIN, 1);
        first.due(0, "start").due(NONE, "choose", 0).due(NONE, "chooseOnce", 0).lock(1, 1).enter("2", false);
        Run second = run("A new object").due(0, "entries").due(false, "isLocked").due(NONE, "running")
                .due(0, "register");
        second.due(NONE, "choose", NONE).due(NONE, "chooseOnce", NONE).due(0, "add", 0, 0, 0, PLAIN, 9);
        first.due(1, "entries").due(true, "isLocked").due(0, "tries", 0).enter("1", true);
    }

    private static void promise2Kind() {
        Run run = run("`kind`: 0 to 2");
        run.refused(Check.ARGUMENT, "add", -1, 0, 0, PLAIN, 1).refused(Check.ARGUMENT, "add", 3, 0, 0, PLAIN, 1);
        run.refused(Check.ARGUMENT, "add", MIN, 0, 0, PLAIN, 1).refused(Check.ARGUMENT, "add", MAX, 0, 0, PLAIN, 1);
        run.due(0, "add", 0, 0, 0, PLAIN, 1).due(1, "add", 2, 0, 0, PLAIN, 1).due(2, "add", 1, 0, 0, PLAIN, 1);
        run.due(0, "at", 0).due(2, "at", 1).due(1, "at", 2);
    }

    private static void promise2Name() {
        Run run = run("`name`: 0 to 99");
        run.refused(Check.ARGUMENT, "add", 0, -1, 0, PLAIN, 1).refused(Check.ARGUMENT, "add", 0, 100, 0, PLAIN, 1);
        run.refused(Check.ARGUMENT, "add", 0, MIN, 0, PLAIN, 1).refused(Check.ARGUMENT, "add", 0, MAX, 0, PLAIN, 1);
        run.due(0, "add", 0, 99, 0, PLAIN, 1).due(1, "add", 0, 0, 0, PLAIN, 1).due(1, "at", 0).due(0, "at", 1);
    }

    private static void promise2Version() {
        Run run = run("the three parts: 1000000 times the first one, 1000 times the second one, and the third one,"
                + " added; 0 to 999999999");
        run.refused(Check.ARGUMENT, "add", 0, 0, -1, PLAIN, 1)
                .refused(Check.ARGUMENT, "add", 0, 0, 1000000000, PLAIN, 1);
        run.refused(Check.ARGUMENT, "add", 0, 0, MIN, PLAIN, 1).refused(Check.ARGUMENT, "add", 0, 0, MAX, PLAIN, 1);
        run.due(0, "add", 0, 0, 0, PLAIN, 1).due(1, "add", 0, 0, 999999999, PLAIN, 1).due(1, "at", 0);
        run.due(Measures.chain(0, 0, 0, 0, 0, 1, 0, 0), "foretold", 0);
        run.due(Measures.chain(0, 0, 999, 999, 999, 1, 0, 0), "foretold", 1);
    }

    private static void promise2Mark() {
        Run run = run("`mark`: EARLIER, PLAIN or LATER");
        run.refused(Check.ARGUMENT, "add", 0, 0, 0, -1, 1).refused(Check.ARGUMENT, "add", 0, 0, 0, 3, 1);
        run.refused(Check.ARGUMENT, "add", 0, 0, 0, MIN, 1).refused(Check.ARGUMENT, "add", 0, 0, 0, MAX, 1);
        run.due(0, "add", 0, 0, 0, EARLIER, 1).due(1, "add", 0, 0, 0, PLAIN, 1).due(2, "add", 0, 0, 0, LATER, 1);
        run.due(2, "at", 0).due(1, "at", 1).due(0, "at", 2);
    }

    private static void promise2Tries() {
        Run run = run("`tries`: 0 to 9, or NONE if it is not counted");
        run.refused(Check.ARGUMENT, "add", 0, 0, 0, PLAIN, -2).refused(Check.ARGUMENT, "add", 0, 0, 0, PLAIN, 10);
        run.refused(Check.ARGUMENT, "add", 0, 0, 0, PLAIN, MIN).refused(Check.ARGUMENT, "add", 0, 0, 0, PLAIN, MAX);
        run.due(0, "add", 0, 0, 0, PLAIN, NONE).due(1, "add", 0, 0, 0, PLAIN, 0).due(2, "add", 0, 0, 0, PLAIN, 9);
        run.due(NONE, "tries", 0).due(0, "tries", 1).due(9, "tries", 2);
    }

    private static void promise2AllEdgesAtOnce() {
        Run run = run("Adds an entry").due(0, "add", 0, 0, 0, EARLIER, NONE).due(1, "add", 2, 99, 999999999, LATER, 9);
        run.due(2, "entries").due(0, "at", 0).due(1, "at", 1);
        run.refused(Check.ARGUMENT, "add", -1, -1, -1, -1, -2);
        run.refused(Check.ARGUMENT, "add", 3, 100, 1000000000, 3, 10);
    }

    private static void promise2AnArgumentIsOutOfRange() {
        Run run = run("Throws `IllegalArgumentException` if an argument is out of range");
        run.due(0, "add", 1, 1, 1, PLAIN, 1);
        int[] lowest = {0, 0, 0, EARLIER, NONE};
        int[] highest = {2, 99, 999999999, LATER, 9};
        for (int i = 0; i < lowest.length; i++) {
            int[] below = lowest.clone();
            below[i]--;
            int[] above = highest.clone();
            above[i]++;
            run.refused(Check.ARGUMENT, "add", below).refused(Check.ARGUMENT, "add", above);
        }
        run.due(1, "add", lowest).due(2, "add", highest).due(3, "entries");
    }

    private static void promise2ReturnsItsNumber() {
        Run run = run("Returns its number");
        for (int i = 0; i < 16; i++) {
            run.due(i, "add", i % 3, 99 - i, i * 1000, i % 3, i % 10).due(i + 1, "entries").due(i % 10, "tries", i);
        }
    }

    private static void promise2SixteenEntries() {
        Run run = run("if there are 16 entries, or there were 60");
        for (int i = 0; i < 15; i++) {
            run.due(i, "add", 0, i, 0, PLAIN, 0);
        }
        run.due(15, "add", 2, 15, 0, PLAIN, 0).refused(Check.STATE, "add", 0, 0, 0, PLAIN, NONE);
        run.refused(Check.STATE, "add", 2, 99, 999999999, LATER, 9).due(16, "entries");
        run.due(15, "remove", 7).due(16, "add", 0, 0, 0, PLAIN, NONE).refused(Check.STATE, "add", 0, 0, 0, PLAIN, NONE);
    }

    private static void promise2ThereWereSixty() {
        Run run = run("if there are 16 entries, or there were 60");
        for (int i = 0; i < 45; i++) {
            run.due(i, "add", 0, 0, 0, PLAIN, NONE).due(0, "remove", i);
        }
        // The sixtieth is the fifteenth at a time: a place is free, but no number is left.
        for (int i = 45; i < 60; i++) {
            run.due(i, "add", 0, 0, 0, PLAIN, NONE);
        }
        run.due(15, "entries").refused(Check.STATE, "add", 0, 0, 0, PLAIN, NONE);
        run.due(14, "remove", 50).refused(Check.STATE, "add", 0, 0, 0, PLAIN, NONE);
    }

    private static void promise3OneThatIsThere() {
        Run run = run("`entry`: an entry that is there");
        for (int i = 0; i < 16; i++) {
            run.due(i, "add", 0, 0, 0, PLAIN, NONE);
        }
        run.due(15, "remove", 0).refused(Check.INDEX, "remove", 0);
        run.due(14, "remove", 15).refused(Check.INDEX, "remove", 15);
        run.due(13, "remove", 8).refused(Check.INDEX, "remove", 8).refused(Check.INDEX, "remove", 16);
        run.due(1, "at", 0).due(7, "at", 6).due(9, "at", 7).due(14, "at", 12);
    }

    private static void promise3AlsoTheOneThatRuns() {
        Run run = run("Removes an entry, also the one whose system runs").due(0, "add", 0, 0, 0, PLAIN, 1);
        run.due(0, "start").due(0, "remove", 0).due(0, "running").due(0, "entries").due(NONE, "next");
        run.refused(Check.INDEX, "tries", 0).refused(Check.INDEX, "remove", 0).due(NONE, "good");
    }

    private static void promise3AlsoTheChoices() {
        Run run = run("Removes an entry").due(0, "add", 0, 0, 0, PLAIN, 1).due(1, "add", 0, 0, 0, PLAIN, 1);
        run.due(NONE, "choose", 1).due(NONE, "chooseOnce", 1).due(1, "remove", 1).due(0, "next");
        run.due(1, "choose", NONE).due(1, "chooseOnce", NONE);
    }

    private static void promise3HowManyAreLeft() {
        Run run = run("Returns how many are left");
        for (int i = 0; i < 16; i++) {
            run.due(i, "add", 0, 0, 0, PLAIN, i % 2);
        }
        for (int i = 0; i < 16; i++) {
            run.due(15 - i, "remove", i * 5 % 16).due(15 - i, "entries");
        }
        run.refused(Check.INDEX, "remove", 0).due(16, "add", 0, 0, 0, PLAIN, 1).due(0, "remove", 16);
    }

    private static void promise3NoSuchEntry() {
        Run run = run("Throws `IndexOutOfBoundsException` if there is no such entry");
        run.refusedFor(Check.INDEX, "remove", 0, NONE, 1, MIN, MAX);
        run.due(0, "add", 0, 0, 0, PLAIN, 1).due(1, "add", 0, 0, 0, PLAIN, 1).due(2, "add", 0, 0, 0, PLAIN, 1);
        run.due(2, "remove", 1).refusedFor(Check.INDEX, "remove", 1, 3, NONE, -2, 15, 16, 59, 60, 61, MIN, MAX);
    }

    private static void promise4OneThatIsThere() {
        Run run = run("`entry`: an entry that is there");
        for (int i = 0; i < 16; i++) {
            run.due(i, "add", 0, 0, 0, PLAIN, i % 2);
        }
        run.due(0, "edit", 0, 5).due(0, "edit", 15, 6).due(5, "edit", 0, 0).due(6, "edit", 15, 0).due(0, "edit", 1, 0);
        run.due(15, "remove", 15).refused(Check.INDEX, "edit", 15, 0).due(16, "add", 0, 0, 0, PLAIN, 1);
        run.refused(Check.INDEX, "edit", 15, 0).due(0, "edit", 16, 1);
    }

    private static void promise4Option() {
        Run run = run("`option`: 0 to 99").due(0, "add", 0, 0, 0, PLAIN, 1).due(0, "edit", 0, 99);
        run.refused(Check.ARGUMENT, "edit", 0, 100).refused(Check.ARGUMENT, "edit", 0, -1);
        run.refused(Check.ARGUMENT, "edit", 0, MIN).refused(Check.ARGUMENT, "edit", 0, MAX);
        run.due(99, "edit", 0, 0).due(Measures.chain(0, 0, 0, 0, 0, 1, 0, 0), "foretold", 0);
    }

    private static void promise4OptionIsOutOfRange() {
        Run run = run("Throws `IllegalArgumentException` if option is out of range").due(0, "add", 0, 0, 0, PLAIN, 1);
        run.due(0, "edit", 0, 50).lock(123, 3).enter("12", false);
        for (int option : new int[] {-1, 100, MIN, MAX}) {
            run.refused(Check.ARGUMENT, "edit", 0, option);
        }
        run.enter("3", true);
        for (int option : new int[] {-1, 100, MIN, MAX}) {
            run.refused(Check.ARGUMENT, "edit", 0, option);
        }
        run.due(50, "edit", 0, 0).due(0, "edit", 0, 99);
    }

    private static void promise4TheOptionBefore() {
        Run run = run("Returns the option before").due(0, "add", 0, 0, 0, PLAIN, 0).due(1, "add", 0, 0, 0, PLAIN, 1);
        run.due(0, "edit", 0, 7).due(7, "edit", 0, 7).due(7, "edit", 0, 98).due(0, "edit", 1, 3).due(98, "edit", 0, 0);
        run.due(3, "edit", 1, 99).due(1, "start").due(99, "edit", 1, 0);
    }

    private static void promise4NoSuchEntry() {
        Run run = run("Throws `IndexOutOfBoundsException` if there is no such entry")
                .refused(Check.INDEX, "edit", 0, 0);
        run.due(0, "add", 0, 0, 0, PLAIN, 1).due(1, "add", 0, 0, 0, PLAIN, 1).due(2, "add", 0, 0, 0, PLAIN, 1);
        run.due(2, "remove", 1);
        for (int number : new int[] {1, 3, NONE, -2, 15, 16, 59, 60, 61, MIN, MAX}) {
            run.refused(Check.INDEX, "edit", number, 5).refused(Check.INDEX, "edit", number, 100);
        }
        run.due(0, "edit", 0, 5).due(0, "edit", 2, 5);
    }

    private static void promise4Locked() {
        Run run = run("Throws `IllegalStateException` if the chooser is locked").due(0, "add", 0, 0, 0, PLAIN, 1);
        run.due(0, "edit", 0, 5).lock(123, 3).enter("12", false);
        run.refused(Check.STATE, "edit", 0, 6).refused(Check.STATE, "edit", 0, 5).refused(Check.STATE, "edit", 0, 0);
        run.refused(Check.STATE, "edit", 0, 99).enter("3", true).due(5, "edit", 0, 6);
    }
}
