/** A chooser of systems at start; ../shared/DOC.md says what each call promises. */
public final class BootChooser {
    public static final int NONE = -1;
    public static final int EARLIER = 0, PLAIN = 1, LATER = 2;

    private static final int MOST_ENTRIES = 16;
    private static final int MOST_EVER = 60;
    private static final int HIGHEST_KIND = 2;
    private static final int HIGHEST_NAME = 99;
    private static final int HIGHEST_OPTION = 99;
    private static final int HIGHEST_VERSION = 999999999;
    private static final int HIGHEST_TRIES = 9;
    private static final int MOST_CODE_DIGITS = 6;
    private static final int MOST_DIGITS_ENTERED = 12;
    private static final int MEASURE_MODULUS = 1000003;

    private final Entry[] rows = new Entry[MOST_ENTRIES];
    private final CodeLock codeLock = new CodeLock();
    private int entriesEver = 0;
    private int stayingChoice = NONE;
    private int onceChoice = NONE;
    private int patternFrom = 0;
    private int patternTo = HIGHEST_NAME;
    private int runningEntry = NONE;
    private int measured = 0;

    public BootChooser() {
        for (int i = 0; i < rows.length; i++) {
            rows[i] = new Entry();
        }
    }

    // ---- entries

    public int add(int kind, int name, int version, int mark, int tries)
            throws IllegalArgumentException, IllegalStateException {
        if (!isWithin(kind, 0, HIGHEST_KIND) || !isWithin(name, 0, HIGHEST_NAME)
                || !isWithin(version, 0, HIGHEST_VERSION) || !isWithin(mark, EARLIER, LATER)) {
            throw new IllegalArgumentException("kind, name, version or mark is out of range");
        }
        if (tries != NONE && !isWithin(tries, 0, HIGHEST_TRIES)) {
            throw new IllegalArgumentException("tries is out of range");
        }
        Entry row = freeRow();
        if (row == null || entriesEver >= MOST_EVER) {
            throw new IllegalStateException("there is no room for an entry");
        }
        row.fill(entriesEver, kind, name, version, mark, tries);
        entriesEver++;
        return row.number;
    }

    public int remove(int entry) throws IndexOutOfBoundsException {
        presentEntry(entry).isThere = false;
        return countEntries();
    }

    public int edit(int entry, int option)
            throws IndexOutOfBoundsException, IllegalArgumentException, IllegalStateException {
        Entry edited = presentEntry(entry);
        if (!isWithin(option, 0, HIGHEST_OPTION)) {
            throw new IllegalArgumentException("option is out of range");
        }
        refuseIfLocked();
        int before = edited.option;
        edited.option = option;
        return before;
    }

    // ---- choices

    public int choose(int entry) throws IndexOutOfBoundsException, IllegalStateException {
        refuseAsChoice(entry);
        refuseIfLocked();
        int before = stayingChoice;
        stayingChoice = entry;
        return before;
    }

    public int chooseOnce(int entry) throws IndexOutOfBoundsException {
        refuseAsChoice(entry);
        int before = onceChoice;
        onceChoice = entry;
        return before;
    }

    public int setPattern(int from, int to) throws IllegalArgumentException, IllegalStateException {
        if (!isWithin(from, 0, HIGHEST_NAME) || !isWithin(to, from, HIGHEST_NAME)) {
            throw new IllegalArgumentException("from or to is out of range");
        }
        refuseIfLocked();
        patternFrom = from;
        patternTo = to;
        return countFitting();
    }

    // ---- starts

    public int start() throws IllegalStateException {
        Entry started = nextEntry();
        if (started == null) {
            throw new IllegalStateException("there are no entries");
        }
        measured = measure(started);
        onceChoice = NONE;
        runningEntry = started.number;
        started.useTry();
        codeLock.forgetDigits();
        return started.number;
    }

    public int good() throws IllegalStateException {
        if (runningEntry == NONE) {
            throw new IllegalStateException("nothing runs");
        }
        Entry started = findEntry(runningEntry);
        if (started == null) {
            return NONE;
        }
        int before = started.triesLeft;
        started.triesLeft = NONE;
        return before;
    }

    public int running() {
        return runningEntry;
    }

    public int next() {
        Entry following = nextEntry();
        return following == null ? NONE : following.number;
    }

    // ---- the lock

    public void lock(int code, int many) throws IllegalArgumentException, IllegalStateException {
        if (!isWithin(many, 1, MOST_CODE_DIGITS)) {
            throw new IllegalArgumentException("many is out of range");
        }
        if (!isWithin(code, 0, highestCode(many))) {
            throw new IllegalArgumentException("code is below 0 or has more digits");
        }
        refuseIfLocked();
        codeLock.close(code, many);
    }

    public boolean enter(int digit) throws IllegalArgumentException, IllegalStateException {
        if (!isWithin(digit, 0, 9)) {
            throw new IllegalArgumentException("digit is out of range");
        }
        return codeLock.takeDigit(digit);
    }

    public boolean isLocked() {
        return codeLock.isClosed;
    }

    // ---- what there is

    public int entries() {
        return countEntries();
    }

    public int at(int place) throws IndexOutOfBoundsException {
        Entry found = entryWithPlace(place);
        if (found == null) {
            throw new IndexOutOfBoundsException("there are not so many entries");
        }
        return found.number;
    }

    public int placeOf(int entry) throws IndexOutOfBoundsException {
        return countAhead(presentEntry(entry));
    }

    public int tries(int entry) throws IndexOutOfBoundsException {
        return presentEntry(entry).triesLeft;
    }

    public int compare(int entry, int other) throws IndexOutOfBoundsException {
        Entry first = presentEntry(entry);
        Entry second = presentEntry(other);
        return first.compareVersion(second);
    }

    public int foretold(int entry) throws IndexOutOfBoundsException {
        return measure(presentEntry(entry));
    }

    public int register() {
        return measured;
    }

    // ---- refusals

    private Entry presentEntry(int number) throws IndexOutOfBoundsException {
        Entry found = findEntry(number);
        if (found == null) {
            throw new IndexOutOfBoundsException("there is no such entry");
        }
        return found;
    }

    private void refuseAsChoice(int number) throws IndexOutOfBoundsException {
        if (number != NONE && findEntry(number) == null) {
            throw new IndexOutOfBoundsException("there is no such entry");
        }
    }

    private void refuseIfLocked() throws IllegalStateException {
        if (codeLock.isClosed) {
            throw new IllegalStateException("the chooser is locked");
        }
    }

    private static boolean isWithin(int number, int lowest, int highest) {
        return number >= lowest && number <= highest;
    }

    private static int highestCode(int many) {
        int beyond = 1;
        for (int i = 0; i < many; i++) {
            beyond *= 10;
        }
        return beyond - 1;
    }

    // ---- the rows

    private Entry freeRow() {
        for (Entry row : rows) {
            if (!row.isThere) {
                return row;
            }
        }
        return null;
    }

    private Entry findEntry(int number) {
        for (Entry row : rows) {
            if (row.isThere && row.number == number) {
                return row;
            }
        }
        return null;
    }

    private int countEntries() {
        int count = 0;
        for (Entry row : rows) {
            if (row.isThere) {
                count++;
            }
        }
        return count;
    }

    private int countFitting() {
        int count = 0;
        for (Entry row : rows) {
            if (row.isThere && isFitting(row)) {
                count++;
            }
        }
        return count;
    }

    private boolean isFitting(Entry entry) {
        return isWithin(entry.name, patternFrom, patternTo);
    }

    // ---- the order

    private int countAhead(Entry entry) {
        int count = 0;
        for (Entry row : rows) {
            if (row.isThere && row.isAheadOf(entry)) {
                count++;
            }
        }
        return count;
    }

    private Entry entryWithPlace(int place) {
        for (Entry row : rows) {
            if (row.isThere && countAhead(row) == place) {
                return row;
            }
        }
        return null;
    }

    private Entry nextEntry() {
        Entry once = findEntry(onceChoice);
        if (once != null) {
            return once;
        }
        Entry staying = findEntry(stayingChoice);
        if (staying != null && !staying.isBad()) {
            return staying;
        }
        Entry fitting = firstFittingNotBad();
        return fitting != null ? fitting : entryWithPlace(0);
    }

    private Entry firstFittingNotBad() {
        Entry first = null;
        for (Entry row : rows) {
            if (row.isThere && isFitting(row) && !row.isBad()
                    && (first == null || row.isAheadOf(first))) {
                first = row;
            }
        }
        return first;
    }

    // ---- measures

    private int measure(Entry entry) {
        int value = step(0, codeLock.isClosed ? 1 : 0);
        value = step(value, entry.kind);
        value = step(value, entry.version / 1000000);
        value = step(value, entry.version / 1000 % 1000);
        value = step(value, entry.version % 1000);
        value = step(value, entry.mark);
        value = step(value, entry.name);
        return step(value, entry.option);
    }

    private static int step(int value, int number) {
        return (value * 31 + number + 7) % MEASURE_MODULUS;
    }

    /** One row for entries: it is used again when its entry is gone. */
    private static final class Entry {
        private boolean isThere = false;
        private int number = NONE;
        private int kind = 0;
        private int name = 0;
        private int version = 0;
        private int mark = PLAIN;
        private int option = 0;
        private int triesLeft = NONE;

        private void fill(int newNumber, int newKind, int newName, int newVersion, int newMark, int newTries) {
            isThere = true;
            number = newNumber;
            kind = newKind;
            name = newName;
            version = newVersion;
            mark = newMark;
            option = 0;
            triesLeft = newTries;
        }

        private boolean isBad() {
            return triesLeft == 0;
        }

        private void useTry() {
            if (triesLeft > 0) {
                triesLeft--;
            }
        }

        private boolean isAheadOf(Entry other) {
            if (isBad() != other.isBad()) {
                return other.isBad();
            }
            if (kind != other.kind) {
                return kind < other.kind;
            }
            int byVersion = compareVersion(other);
            if (byVersion != 0) {
                return byVersion > 0;
            }
            if (name != other.name) {
                return name < other.name;
            }
            return number < other.number;
        }

        private int compareVersion(Entry other) {
            // Each part has three decimals of its own, so the whole compares as part after part does.
            if (version != other.version) {
                return version > other.version ? 1 : -1;
            }
            // The marks' numbers rise from EARLIER to LATER.
            return Integer.compare(mark, other.mark);
        }
    }

    /** The lock with its code, and the digits since locking or since the last start. */
    private static final class CodeLock {
        private final int[] digits = new int[MOST_DIGITS_ENTERED];
        private boolean isClosed = false;
        private int codeValue = 0;
        private int codeLength = 1;
        private int entered = 0;

        private void close(int code, int many) {
            isClosed = true;
            codeValue = code;
            codeLength = many;
            forgetDigits();
        }

        private void forgetDigits() {
            entered = 0;
        }

        private boolean takeDigit(int digit) throws IllegalStateException {
            if (!isClosed || entered >= digits.length) {
                throw new IllegalStateException("it is not locked, or too many digits were entered");
            }
            digits[entered] = digit;
            entered++;
            isClosed = !endsInCode();
            return !isClosed;
        }

        private boolean endsInCode() {
            // Fewer digits than the code has must not pass for a code that begins with 0.
            if (entered < codeLength) {
                return false;
            }
            int value = 0;
            for (int i = entered - codeLength; i < entered; i++) {
                value = value * 10 + digits[i];
            }
            return value == codeValue;
        }
    }
}
