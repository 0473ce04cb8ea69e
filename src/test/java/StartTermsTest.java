/** "Terms": what is started next, a start, and a good one, each sentence at its edges. */
public final class StartTermsTest {
    private static final int NONE = BootChooser.NONE;
    private static final int PLAIN = BootChooser.PLAIN;
    private static final Check check = new Check();

    public static void main(String[] args) {
        theChoiceForOneTime();
        theChoiceForOneTimeIsNotThere();
        theChoiceThatStays();
        theChoiceThatStaysIsNotThere();
        theChoiceThatStaysIsBad();
        theFirstThatThePatternFits();
        whatThePatternFitsIsBad();
        thePatternFitsNothing();
        allAreBad();
        nothingIsThere();
        theFirstPattern();
        aPatternIsARange();
        aStartStartsThatEntry();
        theChoiceForOneTimeIsGoneThen();
        itIsGoneAlsoIfItsEntryWasNotThere();
        aRefusedStartKeepsIt();
        oneTryLess();
        notCountedStaysSo();
        noTriesLeftStaySo();
        onlyTheStartedOneHasOneLess();
        runsUntilTheNextStart();
        aGoodStartIsNotCounted();
        aGoodStartOfOneThatIsGone();
        check.end();
    }

    private static Run run(String sentence) {
        return new Run(check, sentence);
    }

    /** Entries 0, 1, 2 with the names 10, 20, 30, in this order, not counted. */
    private static Run three(String sentence) {
        return run(sentence).due(0, "add", 0, 10, 0, PLAIN, NONE).due(1, "add", 0, 20, 0, PLAIN, NONE)
                .due(2, "add", 0, 30, 0, PLAIN, NONE);
    }

    private static void theChoiceForOneTime() {
        String sentence = "the choice for one time, if there is one whose entry is there";
        three(sentence).due(0, "next").due(NONE, "chooseOnce", 2).due(2, "next").due(2, "start").due(0, "next");
        Run run = three(sentence).due(NONE, "choose", 1).due(1, "setPattern", 20, 29).due(NONE, "chooseOnce", 2);
        run.due(2, "next").due(2, "start").due(1, "next");
        // A bad one is started too, since the sentence asks only that its entry is there.
        run = three(sentence).due(3, "add", 2, 0, 0, PLAIN, 0).due(NONE, "choose", 1).due(NONE, "chooseOnce", 3);
        run.due(3, "next").due(3, "start").due(0, "tries", 3).due(1, "next");
    }

    private static void theChoiceForOneTimeIsNotThere() {
        String sentence = "the choice for one time, if there is one whose entry is there";
        three(sentence).due(NONE, "chooseOnce", 2).due(2, "remove", 2).due(0, "next").due(0, "start");
        Run run = three(sentence).due(NONE, "choose", 1).due(NONE, "chooseOnce", 2).due(2, "remove", 2);
        run.due(1, "next").due(3, "add", 0, 30, 0, PLAIN, NONE).due(1, "next").due(1, "start");
    }

    private static void theChoiceThatStays() {
        String sentence = "otherwise the choice that stays, if there is one whose entry is there and is not bad";
        Run run = three(sentence).due(1, "setPattern", 20, 20).due(NONE, "choose", 2);
        run.due(2, "next").due(2, "start").due(2, "start").due(2, "next").due(2, "choose", NONE).due(1, "next");
        // One try left is not bad.
        run = run(sentence).due(0, "add", 0, 0, 0, PLAIN, NONE).due(1, "add", 2, 0, 0, PLAIN, 1);
        run.due(NONE, "choose", 1).due(1, "next");
    }

    private static void theChoiceThatStaysIsNotThere() {
        Run run = three("otherwise the choice that stays, if there is one whose entry is there and is not bad");
        run.due(1, "setPattern", 20, 20).due(NONE, "choose", 2).due(2, "remove", 2).due(1, "next").due(1, "start");
        run.due(3, "add", 0, 30, 0, PLAIN, NONE).due(1, "next").due(2, "choose", 3).due(3, "next");
    }

    private static void theChoiceThatStaysIsBad() {
        Run run = run("otherwise the choice that stays, if there is one whose entry is there and is not bad");
        run.due(0, "add", 0, 10, 9, PLAIN, 2).due(1, "add", 0, 20, 0, PLAIN, 9);
        run.due(NONE, "choose", 0).due(0, "start").due(0, "start").due(1, "next").due(1, "start");
        run.due(0, "choose", 0).due(1, "next");
        // It is not forgotten: it is next again when it is bad no more.
        run.due(NONE, "chooseOnce", 0).due(0, "start").due(0, "good").due(0, "next").due(0, "choose", NONE);
    }

    private static void theFirstThatThePatternFits() {
        Run run = three("otherwise the first entry in the order that the pattern fits and that is not bad");
        run.due(2, "setPattern", 11, 30).due(1, "next").due(1, "setPattern", 21, 30).due(2, "next").due(2, "start");
        run.due(3, "add", 0, 25, 0, PLAIN, 1).due(3, "next").due(4, "add", 0, 26, 1, PLAIN, 1).due(4, "next");
        run.due(4, "start").due(3, "start").due(2, "start");
    }

    private static void whatThePatternFitsIsBad() {
        Run run = run("that the pattern fits and that is not bad; otherwise the first one in the order");
        run.due(0, "add", 0, 10, 0, PLAIN, 0).due(1, "add", 1, 20, 0, PLAIN, 0).due(2, "add", 2, 30, 0, PLAIN, 1);
        run.due(1, "setPattern", 20, 20).due(2, "next").due(2, "start").due(0, "next");
    }

    private static void thePatternFitsNothing() {
        Run run = three("otherwise the first one in the order");
        run.due(0, "setPattern", 0, 9).due(0, "next").due(0, "setPattern", 31, 99).due(0, "next");
        run.due(0, "setPattern", 11, 19).due(0, "next").due(0, "start").due(2, "remove", 0).due(1, "next");
    }

    private static void allAreBad() {
        Run run = run("otherwise the first one in the order");
        run.due(0, "add", 1, 10, 9, PLAIN, 0).due(1, "add", 0, 30, 0, PLAIN, 0).due(2, "add", 0, 20, 0, PLAIN, 0);
        run.due(2, "next").due(1, "setPattern", 10, 10).due(2, "next").due(NONE, "choose", 0).due(2, "next");
        run.due(2, "start").due(0, "tries", 2).due(2, "next");
    }

    private static void nothingIsThere() {
        Run run = run("NONE if there are no entries");
        run.due(NONE, "next").due(0, "add", 0, 0, 0, PLAIN, NONE).due(0, "next");
        run.due(NONE, "choose", 0).due(NONE, "chooseOnce", 0).due(0, "remove", 0).due(NONE, "next");
        run.refused(Check.STATE, "start");
    }

    private static void theFirstPattern() {
        String sentence = "A pattern is a range of names, at first 0 to 99";
        run(sentence).due(0, "add", 0, 50, 0, PLAIN, NONE).due(1, "add", 0, 0, 0, PLAIN, NONE).due(1, "next");
        run(sentence).due(0, "add", 0, 50, 0, PLAIN, NONE).due(1, "add", 0, 99, 1, PLAIN, NONE).due(1, "next");
    }

    private static void aPatternIsARange() {
        Run run = run("A pattern is a range of names");
        for (int i = 0; i < 10; i++) {
            run.due(i, "add", 0, 10 + i, 0, PLAIN, NONE);
        }
        run.due(10, "add", 1, 0, 0, PLAIN, NONE).due(11, "add", 1, 99, 0, PLAIN, NONE);
        run.due(5, "setPattern", 13, 17).due(3, "next").due(1, "setPattern", 17, 17).due(7, "next");
        run.due(2, "setPattern", 18, 98).due(8, "next").due(3, "setPattern", 18, 99).due(8, "next");
        run.due(2, "setPattern", 19, 99).due(9, "next").due(1, "setPattern", 20, 99).due(11, "next");
        run.due(1, "setPattern", 0, 9).due(10, "next").due(2, "setPattern", 0, 10).due(0, "next");
        run.due(1, "setPattern", 0, 0).due(10, "next").due(1, "setPattern", 99, 99).due(11, "next");
    }

    private static void aStartStartsThatEntry() {
        Run run = three("A start starts that entry");
        run.due(NONE, "chooseOnce", 2).due(2, "start").due(2, "running");
        run.due(NONE, "choose", 1).due(1, "start").due(1, "running").due(1, "choose", NONE);
        run.due(1, "setPattern", 30, 30).due(2, "start").due(2, "running");
        run.due(0, "setPattern", 0, 0).due(0, "start").due(0, "running");
    }

    private static void theChoiceForOneTimeIsGoneThen() {
        Run run = three("The choice for one time is gone then (also if its entry was not there)");
        run.due(NONE, "chooseOnce", 2).due(2, "start").due(NONE, "chooseOnce", 1).due(1, "start").due(0, "start");
        run.due(NONE, "chooseOnce", NONE);
    }

    private static void itIsGoneAlsoIfItsEntryWasNotThere() {
        Run run = three("The choice for one time is gone then (also if its entry was not there)");
        run.due(NONE, "chooseOnce", 2).due(2, "remove", 2).due(2, "chooseOnce", 1).due(1, "remove", 1);
        run.due(0, "start").due(NONE, "chooseOnce", NONE);
    }

    private static void aRefusedStartKeepsIt() {
        Run run = run("A call that throws an exception changes nothing");
        run.due(0, "add", 0, 0, 0, PLAIN, 5).due(1, "add", 0, 1, 0, PLAIN, 5).due(0, "start");
        run.due(NONE, "chooseOnce", 1).due(NONE, "choose", 0).lock(123, 3).enter("12", false);
        run.due(1, "remove", 1).due(0, "remove", 0).refused(Check.STATE, "start");
        run.due(0, "running").enter("3", true).due(1, "chooseOnce", NONE).due(0, "choose", NONE);
    }

    private static void oneTryLess() {
        Run run = run("If the entry has tries left, and more than 0, it has 1 less");
        run.due(0, "add", 0, 0, 0, PLAIN, 9);
        for (int tries = 8; tries >= 0; tries--) {
            run.due(0, "start").due(tries, "tries", 0);
        }
        run.due(0, "start").due(0, "tries", 0);
    }

    private static void notCountedStaysSo() {
        Run run = run("If the entry has tries left, and more than 0, it has 1 less");
        run.due(0, "add", 0, 0, 0, PLAIN, NONE).due(0, "start").due(NONE, "tries", 0).due(0, "start");
        run.due(NONE, "tries", 0).due(NONE, "good");
    }

    private static void noTriesLeftStaySo() {
        Run run = run("If the entry has tries left, and more than 0, it has 1 less");
        run.due(0, "add", 0, 0, 0, PLAIN, 0).due(0, "start").due(0, "tries", 0).due(0, "start").due(0, "tries", 0);
        run.due(1, "add", 0, 0, 0, PLAIN, 1).due(1, "next").due(1, "start").due(0, "tries", 1);
    }

    private static void onlyTheStartedOneHasOneLess() {
        Run run = run("If the entry has tries left, and more than 0, it has 1 less");
        run.due(0, "add", 0, 0, 0, PLAIN, 3).due(1, "add", 0, 0, 0, PLAIN, 3).due(2, "add", 0, 0, 0, PLAIN, 3);
        run.due(NONE, "chooseOnce", 1).due(1, "start").due(3, "tries", 0).due(2, "tries", 1).due(3, "tries", 2);
        run.due(0, "start").due(2, "tries", 0).due(2, "tries", 1).due(3, "tries", 2);
    }

    private static void runsUntilTheNextStart() {
        Run run = three("The system that was started last runs, until the next start");
        run.due(NONE, "running").due(NONE, "chooseOnce", 2).due(2, "start").due(2, "running");
        run.due(NONE, "good").due(2, "running").due(NONE, "choose", 1).due(2, "running").due(2, "remove", 2);
        run.due(2, "running").due(1, "remove", 1).due(0, "remove", 0).refused(Check.STATE, "start");
        run.due(2, "running").due(3, "add", 0, 0, 0, PLAIN, NONE).due(2, "running").due(3, "start").due(3, "running");
    }

    private static void aGoodStartIsNotCounted() {
        String sentence = "When its start is said to be good, its entry, if it is there still, is not counted any more";
        for (int tries = 0; tries <= 9; tries++) {
            Run run = run(sentence).due(0, "add", 0, 0, 0, PLAIN, tries).due(0, "start");
            run.due(Math.max(tries - 1, 0), "good").due(NONE, "tries", 0).due(NONE, "good").due(0, "start");
            run.due(NONE, "tries", 0);
        }
    }

    private static void aGoodStartOfOneThatIsGone() {
        Run run = run("When its start is said to be good, its entry, if it is there still, is not counted any more");
        run.due(0, "add", 0, 0, 0, PLAIN, 3).due(1, "add", 0, 0, 0, PLAIN, 5).due(0, "start").due(1, "remove", 0);
        run.due(2, "add", 0, 0, 0, PLAIN, 7).due(NONE, "good").due(5, "tries", 1).due(7, "tries", 2);
        run.due(0, "running").due(NONE, "good");
    }
}
