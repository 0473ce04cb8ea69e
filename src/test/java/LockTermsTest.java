/** "Terms": the lock and its digits, and the measures, each sentence at its edges. */
public final class LockTermsTest {
    private static final int NONE = BootChooser.NONE;
    private static final int PLAIN = BootChooser.PLAIN;
    private static final Check check = new Check();

    public static void main(String[] args) {
        lockedOptionsAndPatternAndTheChoiceThatStays();
        lockedAllOtherCallsGoOn();
        unlockedTheyGoOn();
        theDigitsThatWereEnteredLast();
        asManyAsTheCodeHas();
        behindEachDigit();
        sinceLocking();
        sinceTheLastStart();
        theTwelfthDigit();
        twelveDigitsBarFurtherOnes();
        untilTheNextStart();
        aRefusedStartEndsNothing();
        aRefusedDigitIsNone();
        elevenDigitsAndAStart();
        lockingCountsFromNothing();
        theRegisterIsZeroAtAStart();
        theRegisterWrapsAround();
        theRegisterWrapsAroundWithinTheChain();
        theMeasuresOneByOne();
        check.end();
    }

    private static Run run(String sentence) {
        return new Run(check, sentence);
    }

    /** Entries 0 and 1, in this order, not counted. */
    private static Run two(String sentence) {
        return run(sentence).due(0, "add", 0, 10, 0, PLAIN, NONE).due(1, "add", 0, 20, 0, PLAIN, NONE);
    }

    private static void lockedOptionsAndPatternAndTheChoiceThatStays() {
        Run run = two("While it is locked options cannot be edited, and neither pattern nor the choice that stays can"
                + " be changed");
        run.due(0, "edit", 0, 7).due(NONE, "choose", 1).due(1, "setPattern", 20, 20).lock(123, 3);
        run.refused(Check.STATE, "edit", 0, 8).refused(Check.STATE, "edit", 0, 7).refused(Check.STATE, "edit", 1, 0);
        run.refused(Check.STATE, "choose", 0).refused(Check.STATE, "choose", 1).refused(Check.STATE, "choose", NONE);
        run.refused(Check.STATE, "setPattern", 0, 99).refused(Check.STATE, "setPattern", 20, 20);
        run.due(1, "start");
        run.refused(Check.STATE, "edit", 0, 8).refused(Check.STATE, "choose", 0);
        run.refused(Check.STATE, "setPattern", 0, 99);
    }

    private static void lockedAllOtherCallsGoOn() {
        Run run = two("While it is locked").lock(123, 3);
        run.due(2, "add", 0, 30, 9, PLAIN, 2).due(2, "remove", 0).due(NONE, "chooseOnce", 1).due(1, "chooseOnce", NONE);
        run.due(2, "start").due(1, "good").due(2, "running").due(2, "next").due(2, "entries").due(2, "at", 0);
        run.due(0, "placeOf", 2).due(NONE, "tries", 2).due(1, "compare", 2, 1).enter("123", true);
    }

    private static void unlockedTheyGoOn() {
        Run run = two("options that can be edited only when the chooser is unlocked").lock(5, 1).enter("5", true);
        run.due(0, "edit", 0, 99).due(NONE, "choose", 1).due(2, "setPattern", 10, 20).due(1, "start");
    }

    private static void theDigitsThatWereEnteredLast() {
        String[][] opened = {{"12", "112"}, {"12", "2312"}, {"123", "12123"}, {"0", "10"}, {"9", "89"},
            {"100", "110100"}, {"112", "1112"}, {"999999", "8999999"}, {"123456", "12345123456"},
            {"001", "0001"}, {"121", "1121"}};
        for (String[] one : opened) {
            Run run = run("the digits that were entered last, as many as the code has, are held against it");
            run.lock(Integer.parseInt(one[0]), one[0].length()).enter(one[1], true);
        }
        run("the digits that were entered last").lock(12, 2).enter("1020210", false).enter("12", true);
    }

    private static void asManyAsTheCodeHas() {
        String sentence = "the digits that were entered last, as many as the code has, are held against it";
        run(sentence).lock(0, 1).enter("0", true);
        run(sentence).lock(9, 1).enter("9", true);
        run(sentence).lock(0, 2).enter("0", false).enter("0", true);
        run(sentence).lock(7, 3).enter("7", false).enter("07", false).enter("007", true);
        run(sentence).lock(1, 6).enter("1", false).enter("00001", false).enter("000001", true);
        run(sentence).lock(0, 6).enter("00000", false).enter("0", true);
        run(sentence).lock(100000, 6).enter("10000", false).enter("0", true);
        run(sentence).lock(999999, 6).enter("99999", false).enter("9", true);
        run(sentence).lock(10, 2).enter("0", false).enter("10", true);
    }

    private static void behindEachDigit() {
        Run run = run("are held against it behind each digit").lock(12, 2).enter("12", true);
        run.refused(Check.STATE, "enter", 3);
        run.lock(12, 2).enter("3", false).enter("12", true).refused(Check.STATE, "enter", 1);
    }

    private static void sinceLocking() {
        String sentence = "behind each digit since locking";
        run(sentence).lock(12, 2).enter("12", true).lock(23, 2).enter("3", false).enter("23", true);
        run(sentence).lock(1, 1).enter("1", true).lock(12, 2).enter("2", false).enter("12", true);
        run(sentence).lock(0, 1).enter("0", true).lock(0, 2).enter("0", false).enter("0", true);
        run(sentence).lock(12, 2).enter("12", true).lock(12, 2).enter("1", false).enter("2", true);
    }

    private static void sinceTheLastStart() {
        String sentence = "or since the last start";
        two(sentence).lock(12, 2).enter("1", false).due(0, "start").enter("2", false).enter("12", true);
        two(sentence).lock(0, 2).enter("0", false).due(0, "start").enter("0", false).enter("0", true);
        two(sentence).due(0, "start").lock(12, 2).enter("12", true);
        two(sentence).lock(999999, 6).enter("99999", false).due(0, "start").enter("99999", false).enter("9", true);
    }

    private static void theTwelfthDigit() {
        String sentence = "12 digits since then without unlocking bar further ones until the next start";
        run(sentence).lock(12, 2).enter("000000000012", true);
        run(sentence).lock(1, 1).enter("000000000001", true);
        run(sentence).lock(123456, 6).enter("000000123456", true);
        run(sentence).lock(0, 1).enter("999999999990", true).lock(0, 1).enter("999999999990", true);
    }

    private static void twelveDigitsBarFurtherOnes() {
        Run run = run("12 digits since then without unlocking bar further ones until the next start");
        run.lock(123, 3).enter("00000000001", false).enter("2", false);
        for (int digit = 0; digit <= 9; digit++) {
            run.refused(Check.STATE, "enter", digit);
        }
        run.refused(Check.STATE, "lock", 1, 1).due(true, "isLocked").refused(Check.STATE, "enter", 3);
    }

    private static void untilTheNextStart() {
        Run run = two("bar further ones until the next start").lock(123, 3).enter("000000000012", false);
        run.refused(Check.STATE, "enter", 3).due(0, "start").enter("3", false).enter("00000000012", false);
        run.refused(Check.STATE, "enter", 3).due(0, "start").enter("000000000123", true);
        run.refused(Check.STATE, "enter", 3);
    }

    private static void aRefusedStartEndsNothing() {
        Run run = two("bar further ones until the next start").lock(123, 3).enter("000000000012", false);
        run.due(1, "remove", 0).due(0, "remove", 1).refused(Check.STATE, "start").refused(Check.STATE, "enter", 3);
        run.due(2, "add", 0, 0, 0, PLAIN, NONE).refused(Check.STATE, "enter", 3).due(2, "start").enter("123", true);
    }

    private static void aRefusedDigitIsNone() {
        Run run = run("A call that throws an exception changes nothing").lock(123, 3).enter("12", false);
        for (int i = 0; i < 12; i++) {
            run.refused(Check.ARGUMENT, "enter", i % 2 == 0 ? 10 : -1);
        }
        run.enter("3", true);
    }

    private static void elevenDigitsAndAStart() {
        Run run = two("12 digits since then").lock(1, 1).enter("00000000000", false).due(0, "start");
        run.enter("000000000001", true);
        run = two("12 digits since then").lock(1, 1).enter("00000000000", false).due(0, "start");
        run.enter("000000000000", false).refused(Check.STATE, "enter", 1);
    }

    private static void lockingCountsFromNothing() {
        Run run = run("12 digits since then").lock(1, 1).enter("00000000001", true).lock(2, 1);
        run.enter("000000000000", false).refused(Check.STATE, "enter", 2);
    }

    private static void theRegisterIsZeroAtAStart() {
        Run run = two("The register is 0 at a start");
        int first = Measures.chain(0, 0, 0, 0, 0, 1, 10, 0);
        int second = Measures.chain(0, 0, 0, 0, 0, 1, 20, 0);
        run.due(0, "register").due(0, "start").due(first, "register").due(0, "start").due(first, "register");
        run.due(NONE, "chooseOnce", 1).due(1, "start").due(second, "register").due(second, "foretold", 1);
        run.due(first, "foretold", 0).due(0, "start").due(first, "register");
    }

    /** The options next to each other are one short of the modulus or of a multiple of it, at it, and one beyond. */
    private static void theRegisterWrapsAround() {
        String sentence = "it becomes the register times 31, plus n, plus 7, modulo 1000003";
        int[][] entries = {{1, 97, 887342482, 1, 90}, {1, 89, 163710636, 2, 10}, {0, 43, 410658171, 1, 54}};
        int[][] lockedEntries = {{2, 39, 272742396, 0, 28}, {0, 19, 906409554, 0, 10}, {2, 20, 519169322, 2, 85}};
        int[] registers = {1000002, 0, 1};
        for (int i = 0; i < entries.length; i++) {
            for (int more = 0; more < registers.length; more++) {
                wrapped(run(sentence), entries[i], more).due(registers[more], "foretold", 0).due(0, "start")
                        .due(registers[more], "register");
                wrapped(run(sentence), lockedEntries[i], more).lock(0, 1).due(registers[more], "foretold", 0)
                        .due(0, "start").due(registers[more], "register");
            }
        }
    }

    private static Run wrapped(Run run, int[] entry, int more) {
        return run.due(0, "add", entry[0], entry[1], entry[2], entry[3], NONE).due(0, "edit", 0, entry[4] + more);
    }

    /** Behind the third part of these versions the register is 0, 0, and 1000002. */
    private static void theRegisterWrapsAroundWithinTheChain() {
        Run run = run("modulo 1000003");
        run.due(0, "add", 0, 0, 319412555, 0, NONE).due(6951, "foretold", 0);
        run.due(1, "add", 0, 0, 327176183, 0, NONE).due(6951, "foretold", 1);
        run.due(2, "add", 0, 0, 328140337, 0, NONE).due(977163, "foretold", 2);
    }

    private static void theMeasuresOneByOne() {
        Run run = run("1 if the chooser is locked, otherwise 0; the kind; the three parts of the version; the mark"
                + " (0 for EARLIER, 1 for PLAIN, 2 for LATER); the name; the option");
        int[][] measured = {{0, 0, 0, 0, 0, 0, 0}, {1, 0, 0, 0, 0, 0, 0}, {2, 0, 0, 0, 0, 0, 0}, {0, 1, 0, 0, 0, 0, 0},
            {0, 999, 0, 0, 0, 0, 0}, {0, 0, 1, 0, 0, 0, 0}, {0, 0, 999, 0, 0, 0, 0}, {0, 0, 0, 1, 0, 0, 0},
            {0, 0, 0, 999, 0, 0, 0}, {0, 0, 0, 0, 1, 0, 0}, {0, 0, 0, 0, 2, 0, 0}, {0, 0, 0, 0, 0, 1, 0},
            {0, 0, 0, 0, 0, 99, 0}, {0, 0, 0, 0, 0, 0, 1}, {0, 0, 0, 0, 0, 0, 99}, {2, 999, 999, 999, 2, 99, 99}};
        for (int i = 0; i < measured.length; i++) {
            int[] n = measured[i];
            run.due(i, "add", n[0], n[5], n[1] * 1000000 + n[2] * 1000 + n[3], n[4], i % 11 - 1)
                    .due(0, "edit", i, n[6]);
            run.due(Measures.chain(0, n[0], n[1], n[2], n[3], n[4], n[5], n[6]), "foretold", i);
        }
        run.lock(1, 1);
        for (int i = 0; i < measured.length; i++) {
            int[] n = measured[i];
            int locked = Measures.chain(1, n[0], n[1], n[2], n[3], n[4], n[5], n[6]);
            run.due(locked, "foretold", i).due(NONE, "chooseOnce", i).due(i, "start").due(locked, "register");
        }
        run.enter("1", true).due(NONE, "chooseOnce", 0).due(0, "start").due(311715, "register");
    }
}
