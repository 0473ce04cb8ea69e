/** Promises 15 to 21, each sentence at its edges: entries, at, placeOf, tries, compare, foretold, register. */
public final class TellingBoundsTest {
    private static final int NONE = BootChooser.NONE;
    private static final int EARLIER = BootChooser.EARLIER;
    private static final int PLAIN = BootChooser.PLAIN;
    private static final int LATER = BootChooser.LATER;
    private static final int MIN = Integer.MIN_VALUE;
    private static final int MAX = Integer.MAX_VALUE;
    private static final Check check = new Check();

    public static void main(String[] args) {
        promise15HowMany();
        promise16Place();
        promise16FromZero();
        promise16NotSoMany();
        promise17ThoseThatComeAhead();
        promise17OneThatIsThere();
        promise17NoSuchEntry();
        promise18ZeroToNine();
        promise18NoneIfNotCounted();
        promise18OneThatIsThere();
        promise18NoSuchEntry();
        promise19LaterEarlierTheSame();
        promise19BothAreThere();
        promise19NoSuchEntryOfEither();
        promise20BehindAStartNow();
        promise20OfEachEntry();
        promise20OneThatIsThere();
        promise20NoSuchEntry();
        promise21AsTheLatestStartLeftIt();
        promise21BehindARefusedStart();
        check.end();
    }

    private static Run run(String sentence) {
        return new Run(check, sentence);
    }

    private static Run sixteen(Run run) {
        for (int i = 0; i < 16; i++) {
            run.due(i, "add", 0, 15 - i, 0, PLAIN, 1);
        }
        return run;
    }

    /** There were 60, and the last 16 are there: all places are taken, and all numbers are used. */
    private static Run lastNumbers(String sentence) {
        Run run = run(sentence);
        for (int i = 0; i < 60; i++) {
            if (i >= 16) {
                run.due(15, "remove", i - 16);
            }
            run.due(i, "add", 0, i, 100 - i, PLAIN, i % 10);
        }
        return run.due(16, "entries");
    }

    private static void promise15HowMany() {
        Run run = run("Returns how many entries there are").due(0, "entries");
        for (int i = 0; i < 16; i++) {
            run.due(i, "add", 0, 0, 0, PLAIN, i % 2).due(i + 1, "entries");
        }
        run.refused(Check.STATE, "add", 0, 0, 0, PLAIN, 1).due(16, "entries").due(1, "start").due(16, "entries");
        run.due(15, "remove", 3).due(15, "entries").refused(Check.INDEX, "remove", 3).due(15, "entries");
        run.due(16, "add", 0, 0, 0, PLAIN, 1).due(16, "entries").due(0, "setPattern", 50, 60).due(16, "entries");
    }

    private static void promise16Place() {
        Run run = sixteen(run("Returns an entry by the order"));
        for (int place = 0; place < 16; place++) {
            run.due(15 - place, "at", place);
        }
        run.due(15, "start").due(14, "at", 0).due(15, "at", 15).due(15, "remove", 14).due(13, "at", 0)
                .due(15, "at", 14);
    }

    private static void promise16FromZero() {
        Run run = run("`place`: from 0").due(0, "add", 0, 0, 0, PLAIN, 0).refusedFor(Check.INDEX, "at", -1, MIN);
        run.due(0, "at", 0).due(1, "add", 0, 0, 0, PLAIN, 1).due(1, "at", 0).due(0, "at", 1);
    }

    private static void promise16NotSoMany() {
        String sentence = "Throws `IndexOutOfBoundsException` if there are not so many";
        run(sentence).refused(Check.INDEX, "at", 0).refused(Check.INDEX, "at", -1).refused(Check.INDEX, "at", MAX)
                .refused(Check.INDEX, "at", MIN).refused(Check.INDEX, "at", 1);
        Run run = run(sentence).due(0, "add", 0, 0, 0, PLAIN, 1).due(0, "at", 0).refused(Check.INDEX, "at", 1);
        run.refused(Check.INDEX, "at", -1).due(1, "add", 0, 0, 0, PLAIN, 1).due(1, "at", 1);
        run.refused(Check.INDEX, "at", 2).due(1, "remove", 0).due(1, "at", 0).refused(Check.INDEX, "at", 1);
        run.due(0, "remove", 1).refused(Check.INDEX, "at", 0);
        run = sixteen(run(sentence)).due(0, "at", 15).refused(Check.INDEX, "at", 16).refused(Check.INDEX, "at", 17);
        run.refused(Check.INDEX, "at", MAX).refused(Check.INDEX, "at", MIN).refused(Check.INDEX, "at", -1);
        run.due(15, "remove", 15).due(0, "at", 14).refused(Check.INDEX, "at", 15);
    }

    private static void promise17ThoseThatComeAhead() {
        Run run = run("by counting those that come ahead of it").due(0, "add", 0, 0, 0, PLAIN, 1).due(0, "placeOf", 0);
        run = sixteen(run("by counting those that come ahead of it"));
        for (int i = 0; i < 16; i++) {
            run.due(15 - i, "placeOf", i);
        }
        run.due(15, "start").due(15, "placeOf", 15).due(0, "placeOf", 14).due(14, "placeOf", 0).due(0, "good");
        run.due(0, "placeOf", 15).due(15, "remove", 15).due(0, "placeOf", 14).due(14, "placeOf", 0);
    }

    private static void promise17OneThatIsThere() {
        Run run = lastNumbers("`entry`: an entry that is there").refusedFor(Check.INDEX, "placeOf", 0, 43, 60, NONE);
        // The entry 50 is bad.
        run.due(0, "placeOf", 44).due(14, "placeOf", 59).due(15, "placeOf", 50);
    }

    private static void promise17NoSuchEntry() {
        noSuchEntry("placeOf");
    }

    private static void promise18ZeroToNine() {
        Run run = run("Returns 0 to 9").due(0, "add", 0, 0, 0, PLAIN, 0).due(1, "add", 0, 0, 0, PLAIN, 9);
        run.due(0, "tries", 0).due(9, "tries", 1).due(1, "start").due(8, "tries", 1).due(NONE, "chooseOnce", 0);
        run.due(0, "start").due(0, "tries", 0).due(8, "tries", 1);
    }

    private static void promise18NoneIfNotCounted() {
        Run run = run("NONE if it is not counted").due(0, "add", 0, 0, 0, PLAIN, NONE).due(1, "add", 0, 1, 0, PLAIN, 3);
        run.due(NONE, "tries", 0).due(0, "start").due(NONE, "tries", 0).due(NONE, "chooseOnce", 1).due(1, "start");
        run.due(2, "tries", 1).due(2, "good").due(NONE, "tries", 1).due(NONE, "tries", 0);
    }

    private static void promise18OneThatIsThere() {
        Run run = lastNumbers("`entry`: an entry that is there").refusedFor(Check.INDEX, "tries", 0, 43, 60, NONE);
        run.due(4, "tries", 44).due(9, "tries", 59);
    }

    private static void promise18NoSuchEntry() {
        noSuchEntry("tries");
    }

    private static void promise19LaterEarlierTheSame() {
        Run run = run("Returns 1 if the version of the first one is later, -1 if it is earlier,"
                + " 0 if they are the same");
        run.due(0, "add", 2, 99, 0, EARLIER, 0).due(1, "add", 0, 0, 999999999, LATER, NONE);
        run.due(2, "add", 0, 1, 0, EARLIER, 9).due(3, "add", 1, 0, 999999999, LATER, 0);
        run.due(1, "compare", 1, 0).due(-1, "compare", 0, 1).due(0, "compare", 0, 2).due(0, "compare", 2, 0);
        run.due(0, "compare", 1, 3).due(0, "compare", 3, 1).due(0, "compare", 0, 0).due(0, "compare", 1, 1);
        run.due(-1, "compare", 2, 3).due(1, "compare", 3, 2);
    }

    private static void promise19BothAreThere() {
        Run run = lastNumbers("`other`: an entry that is there").due(1, "compare", 44, 59).due(-1, "compare", 59, 44);
        run.refused(Check.INDEX, "compare", 44, 43).refused(Check.INDEX, "compare", 43, 44);
        run.refused(Check.INDEX, "compare", 59, 60).refused(Check.INDEX, "compare", 60, 59).due(0, "compare", 59, 59);
    }

    private static void promise19NoSuchEntryOfEither() {
        String sentence = "Throws `IndexOutOfBoundsException` if there is no such entry, of either";
        run(sentence).refused(Check.INDEX, "compare", 0, 0).refused(Check.INDEX, "compare", NONE, NONE);
        Run run = run(sentence).due(0, "add", 0, 0, 0, PLAIN, 1).due(1, "add", 0, 0, 0, PLAIN, 1).due(1, "remove", 0);
        for (int number : new int[] {0, 2, NONE, -2, 15, 16, 59, 60, MIN, MAX}) {
            run.refused(Check.INDEX, "compare", number, 1).refused(Check.INDEX, "compare", 1, number);
            run.refused(Check.INDEX, "compare", number, number);
        }
        run.due(0, "compare", 1, 1);
    }

    private static void promise20BehindAStartNow() {
        Run run = run("Tells ahead what the register would be behind a start of an entry now");
        run.due(0, "add", 2, 8, 7006005, LATER, 1).due(0, "register");
        run.due(Measures.chain(0, 2, 7, 6, 5, 2, 8, 0), "foretold", 0).due(0, "register").due(1, "tries", 0);
        run.due(0, "edit", 0, 99).due(Measures.chain(0, 2, 7, 6, 5, 2, 8, 99), "foretold", 0).lock(4, 1);
        int locked = Measures.chain(1, 2, 7, 6, 5, 2, 8, 99);
        run.due(locked, "foretold", 0).due(0, "start").due(locked, "register").due(locked, "foretold", 0);
        run.enter("4", true).due(Measures.chain(0, 2, 7, 6, 5, 2, 8, 99), "foretold", 0).due(locked, "register");
        run.due(0, "start").due(Measures.chain(0, 2, 7, 6, 5, 2, 8, 99), "register");
    }

    private static void promise20OfEachEntry() {
        Run run = run("Tells ahead").due(0, "add", 0, 0, 0, EARLIER, NONE).due(1, "add", 2, 99, 999999999, LATER, 0);
        // Not the next one, and a bad one: told all the same, as if it were started.
        int other = Measures.chain(0, 2, 999, 999, 999, 2, 99, 0);
        run.due(other, "foretold", 1).due(311715, "foretold", 0).due(0, "start").due(311715, "register");
        run.due(NONE, "chooseOnce", 1).due(1, "start").due(other, "register");
    }

    private static void promise20OneThatIsThere() {
        Run run = lastNumbers("`entry`: an entry that is there").refusedFor(Check.INDEX, "foretold", 0, 43, 60, NONE);
        run.due(Measures.chain(0, 0, 0, 0, 56, 1, 44, 0), "foretold", 44);
        run.due(Measures.chain(0, 0, 0, 0, 41, 1, 59, 0), "foretold", 59);
    }

    private static void promise20NoSuchEntry() {
        noSuchEntry("foretold");
    }

    private static void promise21AsTheLatestStartLeftIt() {
        Run run = run("Returns the register, as the latest start left it").due(0, "register");
        run.due(0, "add", 0, 5, 1002003, LATER, 2).due(0, "register").due(0, "start").due(879268, "register");
        run.due(0, "edit", 0, 9).due(1, "good").lock(1, 1).due(879268, "register").enter("1", true);
        run.due(0, "remove", 0).due(879268, "register").due(1, "add", 0, 0, 0, EARLIER, NONE).due(879268, "register");
        run.due(1, "start").due(311715, "register");
    }

    private static void promise21BehindARefusedStart() {
        Run run = run("as the latest start left it").refused(Check.STATE, "start").due(0, "register");
        run.due(0, "add", 0, 5, 1002003, LATER, 2).due(0, "start").due(0, "remove", 0).refused(Check.STATE, "start");
        run.due(879268, "register");
    }

    /** The call with any number for which there is no entry. */
    private static void noSuchEntry(String name) {
        Run run = run("Throws `IndexOutOfBoundsException` if there is no such entry");
        run.refusedFor(Check.INDEX, name, 0, NONE, 1, MIN, MAX);
        run.due(0, "add", 0, 0, 0, PLAIN, 1).due(1, "add", 0, 0, 0, PLAIN, 1).due(2, "add", 0, 0, 0, PLAIN, 1);
        run.due(2, "remove", 1).due(0, "start").due(1, "remove", 0);
        run.refusedFor(Check.INDEX, name, 0, 1, 3, NONE, -2, 15, 16, 59, 60, 61, MIN, MAX);
    }
}
