/** Promises 8 to 11, each sentence at its edges: start, good, running, next. */
public final class StartBoundsTest {
    private static final int NONE = BootChooser.NONE;
    private static final int PLAIN = BootChooser.PLAIN;
    private static final Check check = new Check();

    public static void main(String[] args) {
        promise8StartsWhatIsNext();
        promise8ReturnsTheEntry();
        promise8ThereAreNoEntries();
        promise8NoEntriesAnyMore();
        promise9HowManyTriesItsEntryHadLeft();
        promise9NotCounted();
        promise9NotThereAnyMore();
        promise9NothingRuns();
        promise9OnlyWhatRuns();
        promise10NothingRuns();
        promise10WhetherOrNotItIsThere();
        promise11NoEntries();
        promise11ChangesNothing();
        promise11AgreesWithStart();
        check.end();
    }

    private static Run run(String sentence) {
        return new Run(check, sentence);
    }

    private static void promise8StartsWhatIsNext() {
        Run run = run("Starts what is next").due(0, "add", 0, 0, 0, PLAIN, 1).due(1, "add", 0, 1, 0, PLAIN, 1);
        run.due(0, "next").due(0, "start").due(0, "tries", 0).due(1, "next").due(1, "start").due(0, "tries", 1);
        run.due(0, "next").due(0, "start").due(0, "running");
    }

    private static void promise8ReturnsTheEntry() {
        Run run = run("Returns the entry");
        for (int i = 0; i < 16; i++) {
            run.due(i, "add", 0, 0, i, PLAIN, 1);
        }
        for (int i = 15; i >= 0; i--) {
            run.due(i, "start").due(i, "running").due(0, "tries", i);
        }
        run.due(15, "start");
    }

    private static void promise8ThereAreNoEntries() {
        Run run = run("Throws `IllegalStateException` if there are no entries").refused(Check.STATE, "start");
        run.due(0, "add", 2, 99, 0, PLAIN, 0).due(0, "start").due(0, "running");
    }

    private static void promise8NoEntriesAnyMore() {
        Run run = run("Throws `IllegalStateException` if there are no entries").due(0, "add", 0, 5, 7, PLAIN, 4);
        run.due(1, "add", 0, 0, 0, PLAIN, 3).due(0, "start").due(NONE, "choose", 1).due(NONE, "chooseOnce", 1);
        run.lock(123, 3).enter("12", false).due(1, "remove", 1).due(0, "remove", 0).refused(Check.STATE, "start");
        run.due(Measures.chain(0, 0, 0, 0, 7, 1, 5, 0), "register").due(0, "running").enter("3", true);
        run.due(1, "choose", NONE).due(1, "chooseOnce", NONE).due(2, "add", 0, 0, 0, PLAIN, 1).due(2, "start");
    }

    private static void promise9HowManyTriesItsEntryHadLeft() {
        for (int tries = 0; tries <= 9; tries++) {
            Run run = run("Returns how many tries its entry had left").due(0, "add", 0, 0, 0, PLAIN, tries);
            run.due(0, "start").due(Math.max(0, tries - 1), "good").due(NONE, "tries", 0);
        }
    }

    private static void promise9NotCounted() {
        Run run = run("NONE if it was not counted").due(0, "add", 0, 0, 0, PLAIN, NONE).due(0, "start")
                .due(NONE, "good");
        run.due(NONE, "good").due(NONE, "tries", 0).due(0, "running");
    }

    private static void promise9NotThereAnyMore() {
        Run run = run("or is not there any more").due(0, "add", 0, 0, 0, PLAIN, 5).due(0, "start").due(0, "remove", 0);
        run.due(NONE, "good").due(1, "add", 0, 0, 0, PLAIN, 6).due(NONE, "good").due(6, "tries", 1).due(0, "running");
        run.due(1, "start").due(5, "good").due(NONE, "tries", 1);
    }

    private static void promise9NothingRuns() {
        String sentence = "Throws `IllegalStateException` if nothing runs";
        run(sentence).refused(Check.STATE, "good");
        Run run = run(sentence).due(0, "add", 0, 0, 0, PLAIN, 5).due(NONE, "choose", 0).due(NONE, "chooseOnce", 0);
        run.refused(Check.STATE, "good").due(5, "tries", 0).due(0, "remove", 0).refused(Check.STATE, "start");
        run.refused(Check.STATE, "good").due(1, "add", 0, 0, 0, PLAIN, 1).due(1, "start").due(0, "good");
    }

    private static void promise9OnlyWhatRuns() {
        Run run = run("Says that the start of the system that runs was good").due(0, "add", 0, 0, 1, PLAIN, 2);
        run.due(1, "add", 0, 0, 0, PLAIN, 4).due(0, "start").due(NONE, "chooseOnce", 1).due(1, "start").due(3, "good");
        run.due(1, "tries", 0).due(NONE, "tries", 1);
    }

    private static void promise10NothingRuns() {
        Run run = run("NONE if nothing runs").due(NONE, "running").refused(Check.STATE, "start").due(NONE, "running");
        run.due(0, "add", 0, 0, 0, PLAIN, 1).due(NONE, "chooseOnce", 0).due(NONE, "running").due(0, "start");
        run.due(0, "running");
    }

    private static void promise10WhetherOrNotItIsThere() {
        Run run = run("Returns the entry of the system that runs, whether or not it is there");
        run.due(0, "add", 0, 0, 0, PLAIN, 1).due(1, "add", 0, 0, 0, PLAIN, 1).due(0, "start").due(0, "running");
        run.due(1, "remove", 0).due(0, "running").due(2, "add", 0, 0, 9, PLAIN, 1).due(0, "running");
        run.due(1, "remove", 1).due(0, "remove", 2).due(0, "running").refused(Check.STATE, "start").due(0, "running");
    }

    private static void promise11NoEntries() {
        Run run = run("Returns what is started next; NONE if there are no entries").due(NONE, "next");
        run.due(0, "add", 0, 0, 0, PLAIN, 0).due(0, "next").due(0, "remove", 0).due(NONE, "next");
        for (int i = 1; i < 60; i++) {
            run.due(i, "add", 0, 0, 0, PLAIN, 1).due(i, "next").due(0, "remove", i).due(NONE, "next");
        }
    }

    private static void promise11ChangesNothing() {
        Run run = run("Returns what is started next").due(0, "add", 0, 0, 0, PLAIN, 1).due(1, "add", 1, 0, 0, PLAIN, 3);
        run.due(NONE, "chooseOnce", 1).due(1, "next").due(1, "next").due(3, "tries", 1).due(NONE, "running");
        run.due(0, "register").due(1, "chooseOnce", 1);
    }

    private static void promise11AgreesWithStart() {
        Run run = run("What is started next").due(0, "add", 0, 10, 9, PLAIN, 1).due(1, "add", 0, 20, 0, PLAIN, 1);
        run.due(2, "add", 0, 30, 0, PLAIN, 1).due(3, "add", 0, 40, 0, PLAIN, NONE).due(NONE, "choose", 2);
        run.due(NONE, "chooseOnce", 3).due(1, "setPattern", 20, 20);
        int[] started = {3, 2, 1, 0, 3, 3};
        for (int entry : started) {
            run.due(entry, "next").due(entry, "start");
        }
    }
}
