/** "Terms": what holds for all calls, entries, versions and the order, each sentence at its edges. */
public final class EntryTermsTest {
    private static final int NONE = BootChooser.NONE;
    private static final int EARLIER = BootChooser.EARLIER;
    private static final int PLAIN = BootChooser.PLAIN;
    private static final int LATER = BootChooser.LATER;
    private static final Check check = new Check();

    public static void main(String[] args) {
        theLastCallThatIsPromised();
        oneRefusedCallOfEachKindChangesNothing();
        theExceptionNamedFirst();
        sixteenAtATime();
        numbersFromZeroOn();
        numbersAreNeverUsedAgain();
        sixtyEver();
        sixtyEverWithAllPlacesTaken();
        aKindANameAVersion();
        anOptionIsZeroAtFirst();
        triesNotCountedOrZeroToNine();
        badWithZeroTries();
        becomesBadAndIsBadNoMore();
        threeParts();
        versionsByTheirParts();
        versionsByTheMark();
        orderBadOnesLast();
        orderByKind();
        orderByVersion();
        orderByName();
        orderByNumber();
        orderOfSixteen();
        check.end();
    }

    private static Run run(String sentence) {
        return new Run(check, sentence);
    }

    private static void theLastCallThatIsPromised() {
        Run run = run("An object is used for at most 512 calls after it has been made");
        run.due(0, "add", 0, 0, 0, PLAIN, 9);
        for (int i = 0; i < 510; i++) {
            run.due(0, "start");
        }
        run.due(0, "tries", 0);
    }

    private static void oneRefusedCallOfEachKindChangesNothing() {
        Run run = run("A call that throws an exception changes nothing");
        run.refused(Check.STATE, "start").refused(Check.STATE, "good");
        run.behind(Scenes.rich());
        run.refused(Check.STATE, "add", 0, 0, 0, PLAIN, NONE);
        run.lock(123, 3).enter("12", false);
        run.refused(Check.INDEX, "remove", 16);
        run.refused(Check.STATE, "edit", 0, 77);
        run.refused(Check.STATE, "choose", 2);
        run.refused(Check.INDEX, "chooseOnce", 16);
        run.refused(Check.STATE, "setPattern", 0, 99);
        run.refused(Check.STATE, "lock", 4, 1);
        run.refused(Check.ARGUMENT, "enter", 10);
        run.refused(Check.INDEX, "at", 16);
        run.refused(Check.INDEX, "placeOf", 16);
        run.refused(Check.INDEX, "tries", 16);
        run.refused(Check.INDEX, "compare", 0, 16);
        run.refused(Check.INDEX, "foretold", 16);
    }

    private static void theExceptionNamedFirst() {
        String sentence = "if several exceptions apply, the one that its @throws lines name first is thrown";
        Run run = full(run(sentence));
        run.refused(Check.ARGUMENT, "add", 3, 0, 0, PLAIN, NONE).refused(Check.ARGUMENT, "add", 0, 0, 0, PLAIN, 10);
        run.refused(Check.INDEX, "edit", 16, 100);
        run.refused(Check.ARGUMENT, "enter", 10);
        run.lock(123, 3);
        run.refused(Check.INDEX, "edit", 16, 100).refused(Check.INDEX, "edit", 16, 0);
        run.refused(Check.ARGUMENT, "edit", 0, 100);
        run.refused(Check.INDEX, "choose", 16);
        run.refused(Check.ARGUMENT, "setPattern", 5, 4);
        run.refused(Check.ARGUMENT, "lock", 0, 7).refused(Check.ARGUMENT, "lock", -1, 1);
        run.enter("000000000000", false);
        run.refused(Check.ARGUMENT, "enter", 10).refused(Check.ARGUMENT, "enter", -1);
        run = run(sentence);
        for (int i = 0; i < 60; i++) {
            run.due(i, "add", 0, 0, 0, PLAIN, NONE).due(0, "remove", i);
        }
        run.refused(Check.ARGUMENT, "add", 0, 100, 0, PLAIN, NONE);
    }

    private static void sixteenAtATime() {
        Run run = full(run("There can be 16 at a time"));
        run.due(16, "entries");
        run.refused(Check.STATE, "add", 0, 0, 0, PLAIN, NONE);
        run.due(15, "remove", 15).due(16, "add", 0, 0, 0, PLAIN, NONE);
        run.refused(Check.STATE, "add", 0, 0, 0, PLAIN, NONE);
        run.due(15, "remove", 0).due(14, "remove", 1);
        run.due(17, "add", 0, 0, 0, PLAIN, NONE).due(18, "add", 0, 0, 0, PLAIN, NONE);
        run.refused(Check.STATE, "add", 0, 0, 0, PLAIN, NONE);
    }

    private static void numbersFromZeroOn() {
        Run run = run("their numbers go from 0 on, in the order in which they are added");
        run.refused(Check.ARGUMENT, "add", 0, 0, 0, PLAIN, 10);
        run.due(0, "add", 2, 99, 0, EARLIER, 0);
        run.refused(Check.ARGUMENT, "add", 3, 0, 0, PLAIN, NONE);
        run.due(1, "add", 0, 0, 999999999, LATER, NONE).due(2, "add", 1, 50, 5, PLAIN, 3);
    }

    private static void numbersAreNeverUsedAgain() {
        Run run = run("and are never used again");
        run.due(0, "add", 0, 0, 0, PLAIN, NONE).due(0, "remove", 0);
        run.due(1, "add", 0, 0, 0, PLAIN, NONE).due(2, "add", 0, 0, 0, PLAIN, NONE);
        run.due(1, "remove", 2).due(3, "add", 0, 0, 0, PLAIN, NONE);
        run.due(1, "remove", 1).due(4, "add", 0, 0, 0, PLAIN, NONE);
        for (String call : new String[] {"remove", "choose", "chooseOnce", "placeOf", "tries", "foretold"}) {
            run.refused(Check.INDEX, call, 0).refused(Check.INDEX, call, 1).refused(Check.INDEX, call, 2);
        }
        run.due(3, "next").due(3, "at", 0).due(4, "at", 1);
    }

    private static void sixtyEver() {
        Run run = run("(at most 60 ever)");
        for (int i = 0; i < 59; i++) {
            run.due(i, "add", 0, 0, 0, PLAIN, NONE).due(0, "remove", i);
        }
        run.due(59, "add", 0, 0, 0, PLAIN, NONE);
        run.refused(Check.STATE, "add", 0, 0, 0, PLAIN, NONE);
        run.due(0, "remove", 59);
        run.refused(Check.STATE, "add", 0, 0, 0, PLAIN, NONE).due(0, "entries");
    }

    private static void sixtyEverWithAllPlacesTaken() {
        Run run = full(run("Throws `IllegalStateException` if there are 16 entries, or there were 60"));
        for (int i = 16; i < 60; i++) {
            run.due(15, "remove", i - 16).due(i, "add", 0, 0, 0, PLAIN, NONE);
        }
        run.refused(Check.STATE, "add", 0, 0, 0, PLAIN, NONE);
        run.due(15, "remove", 59);
        run.refused(Check.STATE, "add", 0, 0, 0, PLAIN, NONE);
        run.due(15, "entries").due(44, "at", 0).due(58, "at", 14);
    }

    private static void aKindANameAVersion() {
        Run run = run("An entry has a kind (0 to 2), a name (0 to 99), a version, an option (0 to 99, 0 at first),"
                + " and tries");
        run.due(0, "add", 0, 0, 0, EARLIER, NONE).due(1, "add", 2, 99, 999999999, LATER, 9);
        run.due(0, "edit", 1, 99);
        run.due(Measures.chain(0, 0, 0, 0, 0, 0, 0, 0), "foretold", 0);
        run.due(Measures.chain(0, 2, 999, 999, 999, 2, 99, 99), "foretold", 1);
    }

    private static void anOptionIsZeroAtFirst() {
        Run run = run("an option (0 to 99, 0 at first)");
        run.due(0, "add", 0, 0, 0, PLAIN, NONE).due(0, "edit", 0, 99).due(99, "edit", 0, 98).due(0, "remove", 0);
        run.due(1, "add", 0, 0, 0, PLAIN, NONE);
        run.due(Measures.chain(0, 0, 0, 0, 0, 1, 0, 0), "foretold", 1).due(0, "edit", 1, 0).due(0, "edit", 1, 1);
    }

    private static void triesNotCountedOrZeroToNine() {
        Run run = run("it is not counted, or has a number of tries left, 0 to 9");
        for (int tries = NONE; tries <= 9; tries++) {
            run.due(tries + 1, "add", 0, 0, 0, PLAIN, tries).due(tries, "tries", tries + 1);
        }
        run.refused(Check.ARGUMENT, "add", 0, 0, 0, PLAIN, -2).refused(Check.ARGUMENT, "add", 0, 0, 0, PLAIN, 10);
    }

    private static void badWithZeroTries() {
        Run run = run("An entry is bad if it has 0 tries left");
        run.due(0, "add", 0, 0, 9, PLAIN, 0).due(1, "add", 0, 0, 0, PLAIN, 1).due(2, "add", 0, 0, 1, PLAIN, NONE);
        run.due(2, "at", 0).due(1, "at", 1).due(0, "at", 2);
        run.due(NONE, "choose", 0).due(2, "next").due(0, "choose", 1).due(1, "next");
    }

    private static void becomesBadAndIsBadNoMore() {
        Run run = run("An entry is bad if it has 0 tries left");
        run.due(0, "add", 0, 0, 9, PLAIN, 2).due(1, "add", 0, 0, 0, PLAIN, NONE);
        run.due(0, "start").due(1, "tries", 0).due(0, "at", 0);
        run.due(0, "start").due(0, "tries", 0).due(1, "at", 0).due(1, "next");
        run.due(0, "good").due(NONE, "tries", 0).due(0, "at", 0).due(0, "next");
    }

    private static void threeParts() {
        Run run = run("Versions have three parts, 0 to 999 each, and a mark, EARLIER, PLAIN or LATER");
        int[][] parts = {{0, 0, 0}, {0, 0, 1}, {0, 0, 999}, {0, 1, 0}, {0, 999, 999}, {1, 0, 0}, {1, 0, 999},
            {1, 999, 0}, {999, 0, 0}, {999, 0, 1}, {999, 999, 999}, {500, 250, 125}};
        for (int i = 0; i < parts.length; i++) {
            int[] one = parts[i];
            int mark = i % 3;
            run.due(i, "add", 0, 0, one[0] * 1000000 + one[1] * 1000 + one[2], mark, NONE);
            run.due(Measures.chain(0, 0, one[0], one[1], one[2], mark, 0, 0), "foretold", i);
        }
        run.refused(Check.ARGUMENT, "add", 0, 0, 1000000000, PLAIN, NONE);
        run.refused(Check.ARGUMENT, "add", 0, 0, 0, EARLIER - 1, NONE);
        run.refused(Check.ARGUMENT, "add", 0, 0, 0, LATER + 1, NONE);
    }

    private static void versionsByTheirParts() {
        Run run = run("Versions are compared by the first part, then by the second one, then by the third one,"
                + " the greater one being the later version");
        // One after the other the later one, so that a part that is less goes against one that is more.
        int[] rising = {0, 1, 999, 1000, 1001, 2000, 999000, 999999, 1000000, 1000001, 1000999, 1001000, 2000000,
            999000999, 999999998, 999999999};
        for (int i = 0; i < rising.length; i++) {
            run.due(i, "add", 0, 0, rising[i], i % 2 == 0 ? LATER : EARLIER, NONE);
        }
        for (int i = 0; i < rising.length; i++) {
            for (int j = 0; j < rising.length; j++) {
                run.due(Integer.compare(i, j), "compare", i, j);
            }
        }
    }

    private static void versionsByTheMark() {
        Run run = run("if all are the same, by the mark: EARLIER is before PLAIN, and PLAIN before LATER");
        run.due(0, "add", 0, 5, 1001001, LATER, NONE).due(1, "add", 1, 0, 1001001, EARLIER, 0);
        run.due(2, "add", 2, 9, 1001001, PLAIN, 9).due(3, "add", 0, 7, 1001001, PLAIN, 1);
        run.due(4, "add", 0, 0, 1001002, EARLIER, NONE).due(5, "add", 0, 0, 1001000, LATER, NONE);
        run.due(1, "compare", 0, 2).due(-1, "compare", 2, 0);
        run.due(1, "compare", 2, 1).due(-1, "compare", 1, 2);
        run.due(1, "compare", 0, 1).due(-1, "compare", 1, 0);
        run.due(0, "compare", 2, 3).due(0, "compare", 3, 2);
        run.due(1, "compare", 4, 0).due(-1, "compare", 0, 4);
        run.due(1, "compare", 1, 5).due(-1, "compare", 5, 1);
    }

    private static void orderBadOnesLast() {
        String sentence = "those that are not bad come ahead of those that are bad";
        ahead(sentence, new int[] {2, 99, 0, EARLIER, 1}, new int[] {0, 0, 999999999, LATER, 0});
        ahead(sentence, new int[] {2, 99, 0, EARLIER, NONE}, new int[] {0, 0, 999999999, LATER, 0});
    }

    private static void orderByKind() {
        String sentence = "then the lower kind";
        ahead(sentence, new int[] {0, 99, 0, EARLIER, 1}, new int[] {1, 0, 999999999, LATER, NONE});
        ahead(sentence, new int[] {1, 99, 0, EARLIER, NONE}, new int[] {2, 0, 999999999, LATER, 9});
        ahead(sentence, new int[] {0, 99, 0, EARLIER, 0}, new int[] {2, 0, 999999999, LATER, 0});
    }

    private static void orderByVersion() {
        String sentence = "then the later version";
        ahead(sentence, new int[] {1, 99, 1, EARLIER, 1}, new int[] {1, 0, 0, LATER, NONE});
        ahead(sentence, new int[] {1, 99, 1000, EARLIER, 1}, new int[] {1, 0, 999, LATER, 9});
        ahead(sentence, new int[] {1, 99, 1000000, EARLIER, 1}, new int[] {1, 0, 999999, LATER, 9});
        ahead(sentence, new int[] {1, 99, 5, LATER, 0}, new int[] {1, 0, 5, PLAIN, 0});
        ahead(sentence, new int[] {1, 99, 5, PLAIN, 1}, new int[] {1, 0, 5, EARLIER, 9});
    }

    private static void orderByName() {
        String sentence = "then the lower name";
        ahead(sentence, new int[] {1, 0, 5, PLAIN, 1}, new int[] {1, 1, 5, PLAIN, NONE});
        ahead(sentence, new int[] {1, 98, 5, PLAIN, NONE}, new int[] {1, 99, 5, PLAIN, 9});
        ahead(sentence, new int[] {1, 0, 5, PLAIN, 0}, new int[] {1, 99, 5, PLAIN, 0});
    }

    private static void orderByNumber() {
        Run run = run("then the lower number");
        run.due(0, "add", 1, 5, 5, PLAIN, 9).due(1, "add", 1, 5, 5, PLAIN, NONE).due(2, "add", 1, 5, 5, PLAIN, 1);
        run.due(0, "at", 0).due(1, "at", 1).due(2, "at", 2);
        // The one that is added last takes the place that came free, but it is behind all others.
        run.due(2, "remove", 0).due(3, "add", 1, 5, 5, PLAIN, 9);
        run.due(1, "at", 0).due(2, "at", 1).due(3, "at", 2).due(1, "next").due(2, "placeOf", 3);
    }

    private static void orderOfSixteen() {
        Run run = run("The order of the entries");
        for (int i = 0; i < 16; i++) {
            int reversed = 15 - i;
            run.due(i, "add", reversed / 8, reversed % 2, reversed / 4 % 2, 2 - reversed / 2 % 2, NONE);
        }
        // By kind 0 and 1; version 1 ahead of 0; mark 2 ahead of 1; name 0 ahead of 1.
        int[] order = {11, 10, 9, 8, 15, 14, 13, 12, 3, 2, 1, 0, 7, 6, 5, 4};
        for (int place = 0; place < 16; place++) {
            run.due(order[place], "at", place).due(place, "placeOf", order[place]);
        }
    }

    /** The first entry comes ahead of the second one, whichever is added first. */
    private static void ahead(String sentence, int[] first, int[] second) {
        run(sentence).due(0, "add", first).due(1, "add", second).due(0, "at", 0).due(1, "at", 1)
                .due(0, "placeOf", 0).due(1, "placeOf", 1).due(0, "next");
        run(sentence).due(0, "add", second).due(1, "add", first).due(1, "at", 0).due(0, "at", 1)
                .due(0, "placeOf", 1).due(1, "placeOf", 0).due(1, "next");
    }

    private static Run full(Run run) {
        for (int i = 0; i < 16; i++) {
            run.due(i, "add", 0, 0, 0, PLAIN, NONE);
        }
        return run;
    }
}
