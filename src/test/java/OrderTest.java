/** Promises 15 to 19: entries, at, placeOf, tries, compare. */
public final class OrderTest {
    private static final int NONE = BootChooser.NONE;
    private static final int EARLIER = BootChooser.EARLIER;
    private static final int PLAIN = BootChooser.PLAIN;
    private static final int LATER = BootChooser.LATER;
    private static final Check check = new Check();

    public static void main(String[] args) {
        promise15Entries();
        promise16At();
        promise16AtBadOnesAreLast();
        promise17PlaceOf();
        promise17PlaceOfRefuses();
        promise18Tries();
        promise18TriesRefuses();
        promise19Compare();
        promise19CompareRefuses();
        check.end();
    }

    private static void promise15Entries() {
        BootChooser x = new BootChooser();
        x.add(0, 0, 0, PLAIN, 0);
        x.add(0, 0, 0, PLAIN, NONE);
        check.due("entries() with a bad one", x.entries(), 2);
        x.setPattern(50, 60);
        check.due("entries() that the pattern does not fit", x.entries(), 2);
        x.remove(0);
        check.due("entries()", x.entries(), 1);
        x.start();
        check.due("entries() behind a start", x.entries(), 1);
    }

    private static void promise16At() {
        BootChooser x = new BootChooser();
        x.add(2, 0, 999999999, LATER, NONE);
        x.add(1, 5, 1002003, PLAIN, NONE);
        x.add(1, 5, 1002003, PLAIN, 9);
        x.add(1, 4, 1002003, PLAIN, 1);
        x.add(1, 99, 1002003, LATER, NONE);
        x.add(1, 0, 1002003, EARLIER, NONE);
        x.add(1, 50, 1002004, EARLIER, NONE);
        x.add(1, 50, 1003000, EARLIER, NONE);
        x.add(1, 50, 2000000, EARLIER, NONE);
        x.add(0, 99, 0, EARLIER, NONE);
        check.due("order", Check.order(x), "9 8 7 6 4 3 1 2 5 0");
    }

    private static void promise16AtBadOnesAreLast() {
        BootChooser x = new BootChooser();
        x.add(0, 0, 999999999, LATER, 0);
        x.add(2, 99, 0, EARLIER, 1);
        x.add(1, 0, 5, LATER, 0);
        x.add(1, 0, 6, LATER, 0);
        check.due("order", Check.order(x), "1 0 3 2");
        x.start();
        check.due("order, all bad", Check.order(x), "0 3 2 1");
        x.good();
        check.due("order", Check.order(x), "1 0 3 2");
    }

    private static void promise17PlaceOf() {
        BootChooser x = new BootChooser();
        x.add(1, 0, 0, PLAIN, NONE);
        x.add(0, 0, 0, PLAIN, NONE);
        x.add(0, 0, 1, PLAIN, 0);
        x.add(0, 0, 1, PLAIN, NONE);
        int[] places = {2, 1, 3, 0};
        for (int i = 0; i < places.length; i++) {
            check.due("placeOf(" + i + ")", x.placeOf(i), places[i]);
            check.due("at(placeOf(" + i + "))", x.at(x.placeOf(i)), i);
        }
        x.remove(1);
        check.due("placeOf(0)", x.placeOf(0), 1);
        check.due("placeOf(2)", x.placeOf(2), 2);
    }

    private static void promise17PlaceOfRefuses() {
        BootChooser x = new BootChooser();
        check.refused("placeOf(0)", x, Check.INDEX, () -> x.placeOf(0));
        x.add(0, 0, 0, PLAIN, NONE);
        x.add(0, 0, 0, PLAIN, NONE);
        x.remove(0);
        check.refused("placeOf(0)", x, Check.INDEX, () -> x.placeOf(0));
        check.refused("placeOf(2)", x, Check.INDEX, () -> x.placeOf(2));
        check.refused("placeOf(NONE)", x, Check.INDEX, () -> x.placeOf(NONE));
    }

    private static void promise18Tries() {
        BootChooser x = new BootChooser();
        for (int tries = NONE; tries <= 9; tries++) {
            int entry = x.add(0, 0, 0, PLAIN, tries);
            check.due("tries(" + entry + ")", x.tries(entry), tries);
        }
        x.chooseOnce(10);
        x.start();
        check.due("tries(10) behind a start", x.tries(10), 8);
        check.due("tries(9) of another", x.tries(9), 8);
        x.good();
        check.due("tries(10) of a good start", x.tries(10), NONE);
    }

    private static void promise18TriesRefuses() {
        BootChooser x = new BootChooser();
        check.refused("tries(0)", x, Check.INDEX, () -> x.tries(0));
        x.add(0, 0, 0, PLAIN, 3);
        check.refused("tries(1)", x, Check.INDEX, () -> x.tries(1));
        check.refused("tries(NONE)", x, Check.INDEX, () -> x.tries(NONE));
        x.remove(0);
        check.refused("tries(0)", x, Check.INDEX, () -> x.tries(0));
    }

    private static void promise19Compare() {
        BootChooser x = new BootChooser();
        int[] versions = {0, 0, 0, 1, 999, 1000, 1001, 999999, 1000000, 1000999, 1001000, 999999999};
        int[] marks = {EARLIER, PLAIN, LATER, EARLIER, LATER, EARLIER, PLAIN, LATER, EARLIER, LATER, PLAIN, PLAIN};
        for (int i = 0; i < versions.length; i++) {
            x.add(i % 3, 99 - i, versions[i], marks[i], i % 11 - 1);
        }
        for (int i = 0; i < versions.length; i++) {
            for (int j = 0; j < versions.length; j++) {
                check.due("compare(" + i + ", " + j + ")", x.compare(i, j), i > j ? 1 : i < j ? -1 : 0);
            }
        }
        int same = x.add(0, 0, 999999999, PLAIN, NONE);
        check.due("compare of the same versions", x.compare(same, 11), 0);
        check.due("compare of the same versions", x.compare(11, same), 0);
    }

    private static void promise19CompareRefuses() {
        BootChooser x = new BootChooser();
        check.refused("compare(0, 0)", x, Check.INDEX, () -> x.compare(0, 0));
        x.add(0, 0, 0, PLAIN, NONE);
        x.add(0, 0, 0, PLAIN, NONE);
        x.remove(0);
        check.refused("compare(0, 1)", x, Check.INDEX, () -> x.compare(0, 1));
        check.refused("compare(1, 0)", x, Check.INDEX, () -> x.compare(1, 0));
        check.refused("compare(1, 2)", x, Check.INDEX, () -> x.compare(1, 2));
        check.refused("compare(NONE, NONE)", x, Check.INDEX, () -> x.compare(NONE, NONE));
        check.due("compare(1, 1)", x.compare(1, 1), 0);
    }
}
