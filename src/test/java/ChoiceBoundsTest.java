/** Promises 5 to 7, each sentence at its edges: choose, chooseOnce, setPattern. */
public final class ChoiceBoundsTest {
    private static final int NONE = BootChooser.NONE;
    private static final int PLAIN = BootChooser.PLAIN;
    private static final int MIN = Integer.MIN_VALUE;
    private static final int MAX = Integer.MAX_VALUE;
    private static final Check check = new Check();

    public static void main(String[] args) {
        promise5MakesTheChoice();
        promise5TakesItAway();
        promise5TheChoiceBefore();
        promise5WhetherOrNotItsEntryIsThere();
        promise5OneThatIsThere();
        promise5ABadOne();
        promise5NoSuchEntry();
        promise5Locked();
        promise6MakesTheChoice();
        promise6TakesItAway();
        promise6TheChoiceBefore();
        promise6WhetherOrNotItsEntryIsThere();
        promise6OneThatIsThere();
        promise6NoSuchEntry();
        promise6AlsoWhenLocked();
        promise7From();
        promise7To();
        promise7HowManyItFits();
        promise7OutOfRange();
        promise7Locked();
        check.end();
    }

    private static Run run(String sentence) {
        return new Run(check, sentence);
    }

    /** Entries 0, 1, 2 with the names 10, 20, 30, in this order; the last one has one try left. */
    private static Run three(String sentence) {
        return run(sentence).due(0, "add", 0, 10, 0, PLAIN, NONE).due(1, "add", 0, 20, 0, PLAIN, NONE)
                .due(2, "add", 0, 30, 0, PLAIN, 1);
    }

    /** All places are taken, by the entries 1 to 16; the entry 0 is gone. */
    private static Run sixteenBehindTheFirst(String sentence) {
        Run run = run(sentence).due(0, "add", 0, 0, 0, PLAIN, NONE).due(0, "remove", 0);
        for (int i = 1; i <= 16; i++) {
            run.due(i, "add", 0, 0, 0, PLAIN, NONE);
        }
        return run;
    }

    private static void promise5MakesTheChoice() {
        Run run = three("Makes the choice that stays").due(NONE, "choose", 1).due(1, "next").due(1, "start");
        run.due(1, "start").due(1, "next").due(1, "choose", 0).due(0, "next").due(0, "start");
    }

    private static void promise5TakesItAway() {
        Run run = three("or takes it away").due(NONE, "choose", 1).due(1, "choose", NONE).due(0, "next");
        run.due(NONE, "choose", NONE).due(0, "start");
    }

    private static void promise5TheChoiceBefore() {
        Run run = three("Returns the choice before").due(NONE, "choose", NONE).due(NONE, "choose", 0)
                .due(0, "choose", 0);
        run.due(0, "choose", 2).due(2, "start").due(2, "choose", 1).due(1, "choose", NONE).due(NONE, "choose", NONE);
        // The other choice is none of its own.
        run.due(NONE, "chooseOnce", 2).due(NONE, "choose", 1).due(2, "chooseOnce", NONE).due(1, "choose", NONE);
    }

    private static void promise5WhetherOrNotItsEntryIsThere() {
        Run run = three("whether or not its entry is there; NONE if there was none");
        run.due(NONE, "choose", 1).due(2, "remove", 1).due(1, "choose", 0).due(1, "remove", 0).due(0, "choose", NONE);
        run.due(NONE, "choose", 2).due(0, "remove", 2).due(2, "choose", NONE).due(NONE, "choose", NONE);
    }

    private static void promise5OneThatIsThere() {
        Run run = sixteenBehindTheFirst("`entry`: an entry that is there, or NONE");
        run.due(NONE, "choose", 1).due(1, "next").due(1, "choose", 16).due(16, "next").due(16, "choose", 9);
        run.refusedFor(Check.INDEX, "choose", 0, 17, -2).due(9, "next").due(9, "choose", NONE).due(1, "next");
    }

    private static void promise5ABadOne() {
        Run run = three("`entry`: an entry that is there, or NONE").due(NONE, "chooseOnce", 2).due(2, "start");
        run.due(NONE, "choose", 2).due(0, "next").due(0, "start").due(2, "choose", 2);
    }

    private static void promise5NoSuchEntry() {
        String sentence = "Throws `IndexOutOfBoundsException` if there is no such entry";
        run(sentence).refused(Check.INDEX, "choose", 0).refused(Check.INDEX, "choose", MAX).due(NONE, "choose", NONE);
        Run run = three(sentence).due(NONE, "choose", 1).due(2, "remove", 1);
        run.refusedFor(Check.INDEX, "choose", 1, 3, -2, 15, 16, 59, 60, MIN, MAX);
        run.due(1, "choose", 2);
    }

    private static void promise5Locked() {
        Run run = three("Throws `IllegalStateException` if the chooser is locked").due(NONE, "choose", 1).lock(123, 3);
        run.refused(Check.STATE, "choose", 0).refused(Check.STATE, "choose", 1).refused(Check.STATE, "choose", NONE);
        run.refused(Check.INDEX, "choose", 3).refused(Check.INDEX, "choose", -2).due(1, "next").due(1, "start");
        run.due(2, "remove", 1).refused(Check.STATE, "choose", NONE).refused(Check.INDEX, "choose", 1);
        run.enter("123", true).due(1, "choose", 0);
        run("if the chooser is locked").lock(123, 3).refused(Check.STATE, "choose", NONE);
    }

    private static void promise6MakesTheChoice() {
        Run run = three("Makes the choice for one time").due(NONE, "chooseOnce", 1).due(1, "next").due(1, "start");
        run.due(0, "next").due(0, "start").due(NONE, "chooseOnce", 2).due(2, "chooseOnce", 0).due(0, "next");
    }

    private static void promise6TakesItAway() {
        Run run = three("or takes it away").due(NONE, "chooseOnce", 1).due(1, "chooseOnce", NONE).due(0, "next");
        run.due(NONE, "chooseOnce", NONE).due(0, "start");
    }

    private static void promise6TheChoiceBefore() {
        Run run = three("Returns the choice before").due(NONE, "chooseOnce", NONE).due(NONE, "chooseOnce", 0);
        run.due(0, "chooseOnce", 0).due(0, "chooseOnce", 2).due(2, "chooseOnce", 1).due(1, "start");
        run.due(NONE, "chooseOnce", 2).due(NONE, "choose", 1).due(2, "chooseOnce", NONE).due(NONE, "chooseOnce", NONE);
    }

    private static void promise6WhetherOrNotItsEntryIsThere() {
        Run run = three("whether or not its entry is there; NONE if there was none");
        run.due(NONE, "chooseOnce", 1).due(2, "remove", 1).due(1, "chooseOnce", 0).due(1, "remove", 0);
        run.due(0, "chooseOnce", NONE).due(NONE, "chooseOnce", 2).due(0, "remove", 2).due(2, "chooseOnce", NONE);
        run.due(NONE, "chooseOnce", NONE);
    }

    private static void promise6OneThatIsThere() {
        Run run = sixteenBehindTheFirst("`entry`: an entry that is there, or NONE");
        run.due(NONE, "chooseOnce", 1).due(1, "next").due(1, "chooseOnce", 16).due(16, "next").due(16, "chooseOnce", 9);
        run.refusedFor(Check.INDEX, "chooseOnce", 0, 17, -2).due(9, "next").due(9, "chooseOnce", NONE).due(1, "next");
    }

    private static void promise6NoSuchEntry() {
        String sentence = "Throws `IndexOutOfBoundsException` if there is no such entry";
        run(sentence).refused(Check.INDEX, "chooseOnce", 0).refused(Check.INDEX, "chooseOnce", MAX);
        Run run = three(sentence).due(NONE, "chooseOnce", 1).due(2, "remove", 1);
        run.refusedFor(Check.INDEX, "chooseOnce", 1, 3, -2, 15, 16, 59, 60, MIN, MAX);
        run.due(1, "chooseOnce", 2);
    }

    private static void promise6AlsoWhenLocked() {
        Run run = three("While it is locked").lock(123, 3).due(NONE, "chooseOnce", 1).due(1, "chooseOnce", NONE);
        run.refused(Check.INDEX, "chooseOnce", 3).due(NONE, "chooseOnce", 2).due(2, "start");
    }

    private static void promise7From() {
        Run run = edgeNames("`from`: 0 to 99").due(4, "setPattern", 0, 99).due(3, "setPattern", 1, 99);
        run.due(1, "setPattern", 99, 99).due(3, "next").refused(Check.ARGUMENT, "setPattern", -1, 99);
        run.refused(Check.ARGUMENT, "setPattern", 100, 99).refused(Check.ARGUMENT, "setPattern", 100, 100);
        run.refused(Check.ARGUMENT, "setPattern", MIN, 99).refused(Check.ARGUMENT, "setPattern", MAX, 99);
        run.refused(Check.ARGUMENT, "setPattern", -1, -1).refused(Check.ARGUMENT, "setPattern", MIN, MIN);
    }

    private static void promise7To() {
        Run run = edgeNames("`to`: from to 99").due(4, "setPattern", 0, 99).due(3, "setPattern", 0, 98);
        run.due(1, "setPattern", 1, 1).due(1, "next").due(1, "setPattern", 0, 0).due(0, "next");
        run.due(1, "setPattern", 98, 98).due(2, "next").refused(Check.ARGUMENT, "setPattern", 98, 97);
        run.refused(Check.ARGUMENT, "setPattern", 0, -1).refused(Check.ARGUMENT, "setPattern", 1, 0);
        run.refused(Check.ARGUMENT, "setPattern", 99, 98).refused(Check.ARGUMENT, "setPattern", 0, 100);
        run.refused(Check.ARGUMENT, "setPattern", 99, 100).refused(Check.ARGUMENT, "setPattern", 0, MIN);
        run.refused(Check.ARGUMENT, "setPattern", 0, MAX).refused(Check.ARGUMENT, "setPattern", MAX, MAX);
    }

    private static void promise7HowManyItFits() {
        Run run = run("Returns how many entries it fits").due(0, "setPattern", 0, 99);
        for (int i = 0; i < 16; i++) {
            run.due(i, "add", i % 3, 40 + i, 0, PLAIN, i % 2);
        }
        run.due(16, "setPattern", 0, 99).due(16, "setPattern", 40, 55).due(15, "setPattern", 41, 55);
        run.due(15, "setPattern", 40, 54).due(1, "setPattern", 40, 40).due(1, "setPattern", 55, 55);
        run.due(0, "setPattern", 0, 39).due(0, "setPattern", 56, 99).due(1, "setPattern", 0, 40);
        // One that is gone does not count, nor does the name of the one that had its place.
        run.due(15, "remove", 5).due(0, "setPattern", 45, 45).due(16, "add", 0, 99, 0, PLAIN, 1);
        run.due(0, "setPattern", 45, 45).due(1, "setPattern", 99, 99).due(1, "setPattern", 56, 99);
    }

    private static void promise7OutOfRange() {
        Run run = edgeNames("Throws `IllegalArgumentException` if from or to is out of range");
        run.due(1, "setPattern", 98, 98);
        int[] edges = {MIN, -1, 0, 50, 99, 100, MAX};
        for (int from : edges) {
            for (int to : edges) {
                if (from < 0 || to < from || to > 99) {
                    run.refused(Check.ARGUMENT, "setPattern", from, to);
                }
            }
        }
        run.due(2, "next");
    }

    private static void promise7Locked() {
        Run run = edgeNames("Throws `IllegalStateException` if the chooser is locked").due(1, "setPattern", 98, 98);
        run.lock(123, 3).refused(Check.STATE, "setPattern", 0, 99).refused(Check.STATE, "setPattern", 98, 98);
        run.refused(Check.STATE, "setPattern", 0, 0).refused(Check.STATE, "setPattern", 99, 99);
        run.refused(Check.ARGUMENT, "setPattern", 99, 98).refused(Check.ARGUMENT, "setPattern", -1, 0);
        run.refused(Check.ARGUMENT, "setPattern", 0, 100).due(2, "next").due(2, "start");
        run.enter("123", true).due(2, "next").due(1, "setPattern", 99, 99).due(3, "next");
    }

    /** Entries 0, 1, 2, 3 with the names 0, 1, 98, 99, in this order. */
    private static Run edgeNames(String sentence) {
        return run(sentence).due(0, "add", 0, 0, 0, PLAIN, NONE).due(1, "add", 0, 1, 0, PLAIN, NONE)
                .due(2, "add", 0, 98, 0, PLAIN, NONE).due(3, "add", 0, 99, 0, PLAIN, NONE);
    }
}
