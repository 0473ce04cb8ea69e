/** Promises 12 to 14: lock, enter, isLocked. */
public final class LockTest {
    private static final int NONE = BootChooser.NONE;
    private static final int PLAIN = BootChooser.PLAIN;
    private static final Check check = new Check();

    public static void main(String[] args) {
        promise12LockEveryLength();
        promise12LockInPlaceOfAnother();
        promise12LockRefuses();
        promise13EnterHoldsTheLastDigits();
        promise13EnterWantsAllDigits();
        promise13EnterTwelveDigits();
        promise13EnterBehindAStart();
        promise13EnterRefuses();
        promise14IsLocked();
        check.end();
    }

    private static int locked(BootChooser x, int code, int many) {
        x.lock(code, many);
        return 0;
    }

    private static int entered(BootChooser x, int digit) {
        return x.enter(digit) ? 1 : 0;
    }

    /** Enters digits; only the last one may unlock. */
    private static boolean enterAll(BootChooser x, String digits) {
        boolean unlocked = false;
        for (int i = 0; i < digits.length(); i++) {
            check.due("is unlocked too early", unlocked, false);
            unlocked = x.enter(digits.charAt(i) - '0');
            check.due("isLocked()", x.isLocked(), !unlocked);
        }
        return unlocked;
    }

    private static void promise12LockEveryLength() {
        String[] codes = {"0", "9", "00", "07", "99", "000", "009", "999", "0000", "0120", "9999",
            "00000", "12345", "99999", "000000", "000001", "120120", "999999"};
        for (String code : codes) {
            BootChooser x = new BootChooser();
            x.lock(Integer.parseInt(code), code.length());
            check.due("isLocked() by " + code, x.isLocked(), true);
            check.due("unlocked by " + code, enterAll(x, code), true);
        }
    }

    private static void promise12LockInPlaceOfAnother() {
        BootChooser x = new BootChooser();
        x.lock(123, 3);
        enterAll(x, "123");
        x.lock(45, 2);
        check.due("123", enterAll(x, "123"), false);
        check.due("45", enterAll(x, "45"), true);
        x.lock(123, 3);
        check.due("3 of the code before does not count", enterAll(x, "23"), false);
        check.due("123", enterAll(x, "123"), true);
    }

    private static void promise12LockRefuses() {
        BootChooser x = new BootChooser();
        int[][] wrong = {{0, 0}, {0, 7}, {0, -1}, {0, Integer.MIN_VALUE}, {0, Integer.MAX_VALUE}, {-1, 1},
            {-1, 6}, {Integer.MIN_VALUE, 6}, {10, 1}, {100, 2}, {1000, 3}, {10000, 4}, {100000, 5},
            {1000000, 6}, {Integer.MAX_VALUE, 6}};
        for (int[] one : wrong) {
            check.refused("lock(" + one[0] + ", " + one[1] + ")", x, Check.ARGUMENT, () -> locked(x, one[0], one[1]));
        }
        x.lock(12, 2);
        check.refused("lock when locked", x, Check.STATE, () -> locked(x, 3, 1));
        check.refused("lock by the same code", x, Check.STATE, () -> locked(x, 12, 2));
        for (int[] one : wrong) {
            check.refused("when locked", x, Check.ARGUMENT, () -> locked(x, one[0], one[1]));
        }
        check.due("1", enterAll(x, "1"), false);
        check.refused("lock between digits", x, Check.STATE, () -> locked(x, 2, 1));
        check.due("the code stays", enterAll(x, "2"), true);
    }

    private static void promise13EnterHoldsTheLastDigits() {
        String[][] runs = {{"12", "112"}, {"12", "2312"}, {"123", "12123"}, {"0", "10"}, {"100", "110100"},
            {"999999", "8999999"}, {"001", "0001"}};
        for (String[] run : runs) {
            BootChooser x = new BootChooser();
            x.lock(Integer.parseInt(run[0]), run[0].length());
            check.due(run[0] + " by " + run[1], enterAll(x, run[1]), true);
        }
    }

    private static void promise13EnterWantsAllDigits() {
        BootChooser x = new BootChooser();
        x.lock(7, 3);
        check.due("7 for 007", enterAll(x, "7"), false);
        check.due("707 for 007", enterAll(x, "07"), false);
        check.due("70707 for 007", enterAll(x, "07"), false);
        check.due("7070707007", enterAll(x, "007"), true);
        x.lock(0, 6);
        check.due("00000 for 000000", enterAll(x, "00000"), false);
        check.due("000000", enterAll(x, "0"), true);
    }

    private static void promise13EnterTwelveDigits() {
        BootChooser x = new BootChooser();
        x.add(0, 0, 0, PLAIN, NONE);
        x.lock(12, 2);
        check.due("the 12th digit unlocks", enterAll(x, "000000000012"), true);
        x.lock(12, 2);
        check.due("12 digits", enterAll(x, "000000000001"), false);
        check.refused("the 13th digit", x, Check.STATE, () -> entered(x, 2));
        check.refused("any other digit", x, Check.STATE, () -> entered(x, 0));
        check.refused("a wrong digit", x, Check.ARGUMENT, () -> entered(x, 10));
        check.refused("lock when barred", x, Check.STATE, () -> locked(x, 1, 1));
        x.start();
        check.due("still locked", x.isLocked(), true);
        check.due("12 digits more", enterAll(x, "222222222222"), false);
        check.refused("the 13th digit again", x, Check.STATE, () -> entered(x, 2));
        x.start();
        check.due("12", enterAll(x, "12"), true);
    }

    private static void promise13EnterBehindAStart() {
        BootChooser x = new BootChooser();
        x.add(0, 0, 0, PLAIN, NONE);
        x.lock(12, 2);
        check.due("1", enterAll(x, "1"), false);
        x.start();
        check.due("2 behind a start", enterAll(x, "2"), false);
        check.due("12", enterAll(x, "12"), true);
        x.start();
        check.due("a start does not lock", x.isLocked(), false);
        x.lock(0, 2);
        check.due("0", enterAll(x, "0"), false);
        x.start();
        check.due("0 behind a start", enterAll(x, "0"), false);
        check.due("00", enterAll(x, "0"), true);
    }

    private static void promise13EnterRefuses() {
        BootChooser x = new BootChooser();
        int[] wrong = {-1, 10, Integer.MIN_VALUE, Integer.MAX_VALUE};
        for (int digit : wrong) {
            check.refused("enter(" + digit + ")", x, Check.ARGUMENT, () -> entered(x, digit));
        }
        check.refused("enter(0) if not locked", x, Check.STATE, () -> entered(x, 0));
        x.lock(90, 2);
        check.due("9", enterAll(x, "9"), false);
        for (int digit : wrong) {
            check.refused("enter(" + digit + ")", x, Check.ARGUMENT, () -> entered(x, digit));
        }
        check.due("refused digits do not count", enterAll(x, "0"), true);
        check.refused("enter(0) when unlocked", x, Check.STATE, () -> entered(x, 0));
        BootChooser y = new BootChooser();
        y.add(0, 0, 0, PLAIN, NONE);
        y.lock(1, 1);
        for (int i = 0; i < 20; i++) {
            check.refused("enter(10)", y, Check.ARGUMENT, () -> entered(y, 10));
        }
        check.due("refused digits bar nothing", enterAll(y, "1"), true);
    }

    private static void promise14IsLocked() {
        BootChooser x = new BootChooser();
        x.add(0, 0, 0, PLAIN, NONE);
        check.due("isLocked()", x.isLocked(), false);
        x.lock(5, 1);
        check.due("isLocked()", x.isLocked(), true);
        x.start();
        check.due("isLocked() behind a start", x.isLocked(), true);
        x.enter(4);
        check.due("isLocked() behind a wrong digit", x.isLocked(), true);
        x.enter(5);
        check.due("isLocked() behind the code", x.isLocked(), false);
    }
}
