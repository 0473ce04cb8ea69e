/** Promises 12 to 14, each sentence at its edges: lock, enter, isLocked. */
public final class LockBoundsTest {
    private static final int NONE = BootChooser.NONE;
    private static final int PLAIN = BootChooser.PLAIN;
    private static final int MIN = Integer.MIN_VALUE;
    private static final int MAX = Integer.MAX_VALUE;
    private static final Check check = new Check();

    public static void main(String[] args) {
        promise12InPlaceOfOneThatItMayHave();
        promise12ItsDigits();
        promise12HowManyDigits();
        promise12DigitsThatAreNotWritten();
        promise12ManyIsOutOfRange();
        promise12TheCodeIsBelowZero();
        promise12TheCodeHasMoreDigits();
        promise12ItIsLocked();
        promise13Digit();
        promise13DigitIsOutOfRange();
        promise13WhetherItIsUnlocked();
        promise13ItIsNotLocked();
        promise13TwelveDigitsWereEntered();
        promise14WhetherItIsLocked();
        check.end();
    }

    private static Run run(String sentence) {
        return new Run(check, sentence);
    }

    private static void promise12InPlaceOfOneThatItMayHave() {
        Run run = run("Locks the chooser by a code, in place of one that it may have").lock(123, 3).enter("123", true);
        run.lock(45, 2).enter("123", false).enter("45", true).lock(0, 6).enter("45", false).enter("000000", true);
        run.lock(5, 1).enter("5", true).lock(123, 3).enter("5", false).enter("123", true);
    }

    private static void promise12ItsDigits() {
        Run run = run("`code`: its digits, as a decimal number").lock(102030, 6).enter("102030", true);
        run.lock(120, 3).enter("012", false).enter("0", true).lock(321, 3).enter("123", false).enter("21", true);
        for (int digit = 0; digit <= 9; digit++) {
            run.lock(digit, 1).enter(digit == 0 ? "1" : "0", false).enter(String.valueOf(digit), true);
        }
    }

    private static void promise12HowManyDigits() {
        String[] codes = {"0", "9", "00", "99", "000", "999", "0000", "9999", "00000", "99999", "000000", "999999"};
        for (String code : codes) {
            Run run = run("`many`: how many digits it has, 1 to 6").lock(Integer.parseInt(code), code.length());
            run.enter(code.substring(1), false).enter(code.substring(0, 1), true);
        }
    }

    private static void promise12DigitsThatAreNotWritten() {
        String sentence = "digits in front that are not written are 0";
        run(sentence).lock(7, 2).enter("7", false).enter("17", false).enter("07", true);
        run(sentence).lock(7, 6).enter("7", false).enter("00007", false).enter("000007", true);
        run(sentence).lock(12, 3).enter("12", false).enter("112", false).enter("012", true);
        run(sentence).lock(0, 3).enter("00", false).enter("0", true);
    }

    private static void promise12ManyIsOutOfRange() {
        Run run = run("Throws `IllegalArgumentException` if many is out of range");
        for (int many : new int[] {0, 7, -1, 8, 9, 10, 32, MIN, MAX}) {
            run.refused(Check.ARGUMENT, "lock", 0, many).refused(Check.ARGUMENT, "lock", 999999, many);
        }
        run.refused(Check.ARGUMENT, "lock", 1000000, 7).refused(Check.ARGUMENT, "lock", MAX, 10).due(false, "isLocked");
        run.lock(0, 6).enter("000000", true).lock(0, 1).enter("0", true);
    }

    private static void promise12TheCodeIsBelowZero() {
        Run run = run("or code is below 0");
        for (int many = 1; many <= 6; many++) {
            run.refused(Check.ARGUMENT, "lock", -1, many).refused(Check.ARGUMENT, "lock", MIN, many);
        }
        run.refused(Check.ARGUMENT, "lock", -9, 1).lock(0, 1).enter("0", true);
    }

    private static void promise12TheCodeHasMoreDigits() {
        int beyond = 1;
        for (int many = 1; many <= 6; many++) {
            beyond *= 10;
            Run run = run("or code is below 0 or has more digits").refused(Check.ARGUMENT, "lock", beyond, many);
            run.refused(Check.ARGUMENT, "lock", beyond + 1, many).refused(Check.ARGUMENT, "lock", MAX, many);
            run.lock(beyond - 1, many).enter("999999".substring(0, many), true);
        }
    }

    private static void promise12ItIsLocked() {
        Run run = run("Throws `IllegalStateException` if it is locked").due(0, "add", 0, 0, 0, PLAIN, NONE)
                .lock(123, 3);
        run.refused(Check.STATE, "lock", 123, 3).refused(Check.STATE, "lock", 0, 1).refused(Check.STATE, "lock", 4, 6);
        run.enter("12", false).refused(Check.STATE, "lock", 3, 1).refused(Check.STATE, "lock", 999999, 6);
        run.refused(Check.ARGUMENT, "lock", 0, 0).refused(Check.ARGUMENT, "lock", 0, 7);
        run.refused(Check.ARGUMENT, "lock", 10, 1).refused(Check.ARGUMENT, "lock", -1, 6);
        run.due(0, "start").refused(Check.STATE, "lock", 0, 1).enter("123", true).lock(0, 1).enter("0", true);
    }

    private static void promise13Digit() {
        Run run = run("`digit`: 0 to 9");
        for (int digit : new int[] {-1, 10, MIN, MAX}) {
            run.refused(Check.ARGUMENT, "enter", digit);
        }
        run.lock(9, 2).enter("0", false);
        for (int digit : new int[] {-1, 10, 19, 90, MIN, MAX}) {
            run.refused(Check.ARGUMENT, "enter", digit);
        }
        run.enter("9", true);
    }

    private static void promise13DigitIsOutOfRange() {
        Run run = run("Throws `IllegalArgumentException` if digit is out of range");
        run.refusedFor(Check.ARGUMENT, "enter", -1, 10, MIN, MAX).lock(123, 3).enter("12", false);
        run.refusedFor(Check.ARGUMENT, "enter", -1, 10, MIN, MAX).enter("000000012", false);
        run.refusedFor(Check.ARGUMENT, "enter", -1, 10, MIN, MAX).enter("0", false);
        run.refusedFor(Check.ARGUMENT, "enter", -1, 10, MIN, MAX).refused(Check.STATE, "enter", 3);
    }

    private static void promise13WhetherItIsUnlocked() {
        Run run = run("Returns whether the chooser is unlocked by it").lock(11, 2).due(false, "enter", 1);
        run.due(false, "enter", 0).due(false, "enter", 1).due(true, "isLocked").due(true, "enter", 1);
        run.due(false, "isLocked");
    }

    private static void promise13ItIsNotLocked() {
        Run run = run("Throws `IllegalStateException` if it is not locked").refused(Check.STATE, "enter", 0);
        run.refused(Check.STATE, "enter", 9).lock(9, 1).enter("9", true).refused(Check.STATE, "enter", 9);
        run.refused(Check.STATE, "enter", 0).refused(Check.ARGUMENT, "enter", 10).lock(12, 2).enter("2", false);
        run.enter("12", true).refused(Check.STATE, "enter", 1);
    }

    private static void promise13TwelveDigitsWereEntered() {
        for (int many = 1; many <= 6; many++) {
            String code = "123456".substring(0, many);
            Run run = run("or 12 digits were entered").due(0, "add", 0, 0, 0, PLAIN, NONE);
            run.lock(Integer.parseInt(code), many).enter("00000000000", false).enter("0", false);
            run.refused(Check.STATE, "enter", 1).refused(Check.STATE, "enter", 0).refused(Check.ARGUMENT, "enter", 10);
            run.due(true, "isLocked").due(0, "start").enter("000000000000".substring(many) + code, true);
            run.refused(Check.STATE, "enter", 1);
        }
    }

    private static void promise14WhetherItIsLocked() {
        Run run = run("Tells whether the chooser is locked").due(false, "isLocked")
                .refused(Check.ARGUMENT, "lock", 0, 0);
        run.due(false, "isLocked").due(0, "add", 0, 0, 0, PLAIN, NONE).lock(5, 1).due(true, "isLocked").due(0, "start");
        run.due(true, "isLocked").enter("444444444444", false).refused(Check.STATE, "enter", 5);
        run.due(true, "isLocked").due(0, "start").enter("5", true).due(0, "start").due(false, "isLocked");
    }
}
