/** Nested loops kept warm by answers that are remembered within a bound. README.md tells how it is used. */
public final class LoopMemo {
    public static final int INVALID_ARGUMENT = -1;
    public static final int NOT_POSSIBLE = -2;
    public static final int LIMIT_REACHED = -3;
    public static final int NOT_FOUND = -4;
    public static final int BOUND = 0, RULE = 1, KEEPING = 2, LOW = 3, HIGH = 4;

    private static final int MOST_ROWS = 20;
    private static final int KEYS = 10;
    private static final int HIGHEST_VALUE = 99;
    private static final int HIGHEST_BOUND = 60;
    private static final int MOST_STEPS = 20;
    private static final int PAD_LENGTH = 60;
    private static final int MOST_STATES = 4;
    private static final int NO_KEY = -1;

    private final State now = new State();
    private final State trial = new State();
    private final State snapshot = new State();
    private final History history = new History();
    private final Pad pad = new Pad();
    private boolean hasSnapshot;
    /** 0 as long as there is no deed to tell about: every error is less than 0. */
    private int stopError;
    private int stopNumber;
    private int stopPosition;

    public LoopMemo() {
    }

    // ---- rows

    public int add(boolean inner, int key, int value) {
        history.prepare(now);
        return history.commit(now.insertRow(inner, key, value));
    }

    public int drop(boolean inner, int row) {
        history.prepare(now);
        return history.commit(now.removeRow(inner, row));
    }

    public int change(int row, int key, int value) {
        history.prepare(now);
        return history.commit(now.rewriteRow(row, key, value));
    }

    // ---- the loop, what is remembered

    public int step(int steps) {
        history.prepare(now);
        return history.commit(now.walk(steps));
    }

    public int again() {
        history.prepare(now);
        return history.commit(now.beginAgain());
    }

    public int forget() {
        history.prepare(now);
        return history.commit(now.throwAllOut());
    }

    public int set(int what, int value) {
        history.prepare(now);
        return history.commit(now.adjust(what, value));
    }

    // ---- texts

    public int append(int code) {
        return pad.push(code);
    }

    public int clear() {
        return pad.empty();
    }

    public int fault(int way) {
        return isWithin(way, 1) ? pad.findFault(way == 1) : INVALID_ARGUMENT;
    }

    public int fill(boolean inner) {
        if (pad.findFault(false) != NOT_FOUND) {
            return NOT_POSSIBLE;
        }
        int rows = pad.items();
        if (now.table(inner).size() + rows > MOST_ROWS) {
            return LIMIT_REACHED;
        }
        history.prepare(now);
        pad.open(false);
        for (int i = 0; i < rows && pad.next(); i++) {
            now.insertRow(inner, pad.first(), pad.second());
        }
        pad.empty();
        return history.commit(now.table(inner).size());
    }

    public int carryOut() {
        if (pad.findFault(true) != NOT_FOUND) {
            return NOT_POSSIBLE;
        }
        int deeds = pad.items();
        history.prepare(now);
        pad.open(true);
        stopError = 0;
        int done = 0;
        while (done < deeds && stopError == 0 && pad.next()) {
            stopError = Math.min(0, obey());
            if (stopError == 0) {
                done++;
            }
        }
        stopNumber = done;
        stopPosition = pad.start();
        pad.empty();
        return history.commit(done);
    }

    public int why(int what) {
        if (!isWithin(what, 2)) {
            return INVALID_ARGUMENT;
        }
        if (stopError == 0) {
            return NOT_FOUND;
        }
        switch (what) {
            case 0: return stopError;
            case 1: return stopNumber;
            default: return stopPosition;
        }
    }

    // ---- looks; nothing is changed

    public int row(boolean inner, int row, int what) {
        Table table = now.table(inner);
        if (!table.has(row) || !isWithin(what, 2)) {
            return INVALID_ARGUMENT;
        }
        switch (what) {
            case 0: return table.key(row);
            case 1: return table.value(row);
            default: return (inner ? now.isInRememberedAnswer(row) : now.isDone(row)) ? 1 : 0;
        }
    }

    public int answer(int key, int what) {
        return isKey(key) && isWithin(what, 3) ? now.answers().tell(key, what) : INVALID_ARGUMENT;
    }

    public int remembered(int key, int what) {
        if (!isKey(key) || !isWithin(what, 5)) {
            return INVALID_ARGUMENT;
        }
        if (!now.memo().holds(key)) {
            return NOT_FOUND;
        }
        switch (what) {
            case 4: return now.memo().uses(key);
            case 5: return now.memo().placeOf(key, now.setting(RULE));
            default: return now.answers().tell(key, what);
        }
    }

    public int count(int what) {
        switch (what) {
            case 0: return now.table(false).size();
            case 1: return now.table(true).size();
            case 2: return now.memo().size();
            case 3: return now.weightTogether();
            case 4: return now.place();
            case 5: return now.totalSoFar();
            case 13:
            case 14:
            case 15:
            case 16:
            case 17: return now.setting(what - 13);
            case 18: return pad.size();
            case 19: return history.size();
            default: return isWithin(what, 19) ? now.tally(what - 6) : INVALID_ARGUMENT;
        }
    }

    public int total(int way) {
        if (!isWithin(way, 1)) {
            return INVALID_ARGUMENT;
        }
        return way == 0 ? now.totalByAnswers() : now.totalByRows();
    }

    public double rate() {
        int hits = now.tally(State.HITS);
        int looks = hits + now.tally(State.MISSES);
        return looks == 0 ? 0.0 : (double) hits / looks;
    }

    // ---- what would be; nothing is changed

    public int ifBound(int bound, int what) {
        if (!isWithin(bound, HIGHEST_BOUND) || !isWithin(what, 3)) {
            return INVALID_ARGUMENT;
        }
        tryBound(bound);
        switch (what) {
            case 0: return brought(State.COST);
            case 1: return brought(State.HITS);
            case 2: return brought(State.MISSES);
            default: return brought(State.MADE_ROOM);
        }
    }

    public int ifOrdered(int order) {
        if (!isWithin(order, 2)) {
            return INVALID_ARGUMENT;
        }
        trial.copyFrom(now);
        if (order == 1) {
            trial.table(false).sortFrom(trial.place());
        } else if (order == 2) {
            trial.table(false).reverseFrom(trial.place());
        }
        trial.walk(MOST_STEPS);
        return brought(State.COST);
    }

    public int leastBound() {
        tryBound(0);
        int least = 0;
        int lowest = brought(State.COST);
        // More room may cost more, by each of the three rules, so that every bound is tried.
        for (int bound = 1; bound <= HIGHEST_BOUND; bound++) {
            tryBound(bound);
            int cost = brought(State.COST);
            if (cost < lowest) {
                lowest = cost;
                least = bound;
            }
        }
        return least;
    }

    // ---- history, snapshot

    public int undo() {
        State before = history.pop();
        if (before == null) {
            return NOT_POSSIBLE;
        }
        now.copyFrom(before);
        return history.size();
    }

    public int save() {
        snapshot.copyFrom(now);
        hasSnapshot = true;
        return now.memo().size();
    }

    public int restore() {
        if (!hasSnapshot) {
            return NOT_POSSIBLE;
        }
        history.prepare(now);
        now.copyFrom(snapshot);
        return history.commit(now.memo().size());
    }

    private int obey() {
        switch (pad.sign()) {
            case 's': return now.walk(pad.first());
            case '+': return now.insertRow(true, pad.first(), pad.second());
            case '-': return now.removeRow(true, pad.first());
            default: return now.beginAgain();
        }
    }

    private void tryBound(int bound) {
        trial.copyFrom(now);
        trial.adjust(BOUND, bound);
        trial.walk(MOST_STEPS);
    }

    private int brought(int tally) {
        return trial.tally(tally) - now.tally(tally);
    }

    private static boolean isWithin(int number, int highest) {
        return number >= 0 && number <= highest;
    }

    private static boolean isKey(int key) {
        return isWithin(key, KEYS - 1);
    }

    private static boolean isRow(int key, int value) {
        return isKey(key) && isWithin(value, HIGHEST_VALUE);
    }

    /** All that a change records, and the steps that change it. A step that returns an error changes nothing. */
    private static final class State {
        /** The tallies stand in the order of count(6) to count(12). */
        static final int HITS = 0, MISSES = 1, COST = 2, MADE_ROOM = 3, FORGOTTEN = 4, TOO_HEAVY = 5, MENDED = 6;

        private static final int THROW_ALL_OUT = 1;
        private static final int MEND = 2;
        private static final int[] FIRST_SETTINGS = {12, 0, 0, 0, 99};
        private static final int[] HIGHEST_SETTINGS = {HIGHEST_BOUND, 2, 2, HIGHEST_VALUE, HIGHEST_VALUE};

        private final Table outer = new Table();
        private final Table inner = new Table();
        private final Answers answers = new Answers();
        private final Memo memo = new Memo();
        private final int[] settings = FIRST_SETTINGS.clone();
        private final int[] tallies = new int[MENDED + 1];
        private int place;
        private int total;

        State() {
        }

        void copyFrom(State from) {
            outer.copyFrom(from.outer);
            inner.copyFrom(from.inner);
            answers.copyFrom(from.answers);
            memo.copyFrom(from.memo);
            copyNumbers(from.settings, settings);
            copyNumbers(from.tallies, tallies);
            place = from.place;
            total = from.total;
        }

        Table table(boolean ofInner) {
            return ofInner ? inner : outer;
        }

        Answers answers() {
            return answers;
        }

        Memo memo() {
            return memo;
        }

        int setting(int what) {
            return what >= 0 && what < settings.length ? settings[what] : 0;
        }

        int tally(int what) {
            return what >= 0 && what < tallies.length ? tallies[what] : 0;
        }

        int place() {
            return place;
        }

        int totalSoFar() {
            return total;
        }

        boolean isDone(int row) {
            return row < place;
        }

        boolean isInRememberedAnswer(int row) {
            return memo.holds(inner.key(row)) && isInBand(inner.value(row));
        }

        int insertRow(boolean toInner, int key, int value) {
            if (!isRow(key, value)) {
                return INVALID_ARGUMENT;
            }
            Table table = table(toInner);
            if (table.size() >= MOST_ROWS) {
                return LIMIT_REACHED;
            }
            table.push(key, value);
            if (toInner) {
                keepTrue(key, key);
            }
            return table.size() - 1;
        }

        int removeRow(boolean fromInner, int row) {
            Table table = table(fromInner);
            if (!table.has(row)) {
                return INVALID_ARGUMENT;
            }
            int key = table.key(row);
            table.takeOut(row);
            if (fromInner) {
                keepTrue(key, key);
            } else if (isDone(row)) {
                place--;
            }
            return table.size();
        }

        int rewriteRow(int row, int key, int value) {
            if (!inner.has(row) || !isRow(key, value)) {
                return INVALID_ARGUMENT;
            }
            int keyAhead = inner.key(row);
            inner.put(row, key, value);
            keepTrue(keyAhead, key);
            return memo.size();
        }

        int walk(int steps) {
            if (steps < 1 || steps > MOST_STEPS) {
                return INVALID_ARGUMENT;
            }
            if (place >= outer.size()) {
                return NOT_POSSIBLE;
            }
            int costAhead = tallies[COST];
            for (int i = 0; i < steps && place < outer.size(); i++) {
                int key = outer.key(place);
                lookUp(key);
                total += outer.value(place) * answers.sum(key);
                place++;
            }
            return tallies[COST] - costAhead;
        }

        int beginAgain() {
            int had = total;
            place = 0;
            total = 0;
            return had;
        }

        int throwAllOut() {
            int gone = memo.loseAll();
            tallies[FORGOTTEN] += gone;
            return gone;
        }

        int adjust(int what, int value) {
            if (what < BOUND || what > HIGH || value < 0 || value > HIGHEST_SETTINGS[what]) {
                return INVALID_ARGUMENT;
            }
            settings[what] = value;
            if (what == BOUND) {
                return makeRoom(NO_KEY);
            }
            findAnswers();
            return throwAllOut();
        }

        int weightTogether() {
            int weight = 0;
            for (int key = 0; key < KEYS; key++) {
                if (memo.holds(key)) {
                    weight += answers.weight(key);
                }
            }
            return weight;
        }

        int totalByAnswers() {
            int sum = 0;
            for (int row = 0; row < outer.size(); row++) {
                sum += outer.value(row) * answers.sum(outer.key(row));
            }
            return sum;
        }

        int totalByRows() {
            int sum = 0;
            for (int row = 0; row < outer.size(); row++) {
                for (int other = 0; other < inner.size(); other++) {
                    if (inner.key(other) == outer.key(row) && isInBand(inner.value(other))) {
                        sum += outer.value(row) * inner.value(other);
                    }
                }
            }
            return sum;
        }

        private void lookUp(int key) {
            if (memo.holds(key)) {
                tallies[HITS]++;
                tallies[COST]++;
                memo.touch(key);
                return;
            }
            tallies[MISSES]++;
            tallies[COST] += 2 + inner.size();
            if (answers.weight(key) > settings[BOUND]) {
                tallies[TOO_HEAVY]++;
                return;
            }
            memo.take(key);
            makeRoom(key);
        }

        private int makeRoom(int sparedKey) {
            int gone = 0;
            int weight = weightTogether();
            while (gone < KEYS && weight > settings[BOUND]) {
                int key = memo.firstOut(settings[RULE], sparedKey);
                weight -= answers.weight(key);
                memo.lose(key);
                gone++;
            }
            tallies[MADE_ROOM] += gone;
            return gone;
        }

        private void keepTrue(int keyAhead, int keyBehind) {
            findAnswers();
            if (settings[KEEPING] == THROW_ALL_OUT) {
                throwAllOut();
                return;
            }
            keepAnswerTrue(keyAhead);
            if (keyBehind != keyAhead) {
                keepAnswerTrue(keyBehind);
            }
        }

        private void keepAnswerTrue(int key) {
            if (!memo.holds(key)) {
                return;
            }
            if (settings[KEEPING] == MEND) {
                // Its rows stand in the answers, which have been found anew.
                tallies[MENDED]++;
            } else {
                memo.lose(key);
                tallies[FORGOTTEN]++;
            }
        }

        private void findAnswers() {
            answers.find(inner, settings[LOW], settings[HIGH]);
        }

        private boolean isInBand(int value) {
            return value >= settings[LOW] && value <= settings[HIGH];
        }
    }

    /** The rows of a table, in the order in which they came. */
    private static final class Table {
        private final int[] keys = new int[MOST_ROWS];
        private final int[] values = new int[MOST_ROWS];
        private int size;

        Table() {
        }

        void copyFrom(Table from) {
            copyNumbers(from.keys, keys);
            copyNumbers(from.values, values);
            size = from.size;
        }

        int size() {
            return size;
        }

        boolean has(int row) {
            return row >= 0 && row < size;
        }

        int key(int row) {
            return row >= 0 && row < keys.length ? keys[row] : 0;
        }

        int value(int row) {
            return row >= 0 && row < values.length ? values[row] : 0;
        }

        void put(int row, int key, int value) {
            if (row >= 0 && row < keys.length && row < values.length) {
                keys[row] = key;
                values[row] = value;
            }
        }

        void push(int key, int value) {
            if (size < MOST_ROWS) {
                put(size, key, value);
                size++;
            }
        }

        void takeOut(int row) {
            if (!has(row)) {
                return;
            }
            for (int i = row; i < size - 1; i++) {
                put(i, key(i + 1), value(i + 1));
            }
            size--;
        }

        /** By rising keys; rows of the same key stay as they are, since only unlike neighbours are swapped. */
        void sortFrom(int first) {
            for (int end = first + 1; end < size; end++) {
                for (int row = end; row > first && key(row - 1) > key(row); row--) {
                    swap(row - 1, row);
                }
            }
        }

        void reverseFrom(int first) {
            int last = size - 1;
            for (int row = first; row < last; row++) {
                swap(row, last);
                last--;
            }
        }

        private void swap(int row, int other) {
            int key = key(row);
            int value = value(row);
            put(row, key(other), value(other));
            put(other, key, value);
        }
    }

    /**
     * What would be found in the inner table now, for every key. What is remembered is always kept true, so that a
     * remembered answer has these rows too, and only that it is remembered is held elsewhere.
     */
    private static final class Answers {
        private static final int WEIGHT_WITHOUT_ROWS = 2;

        private final int[] rows = new int[KEYS];
        private final int[] sums = new int[KEYS];
        private final int[] firstRows = new int[KEYS];

        Answers() {
        }

        void copyFrom(Answers from) {
            copyNumbers(from.rows, rows);
            copyNumbers(from.sums, sums);
            copyNumbers(from.firstRows, firstRows);
        }

        void find(Table inner, int low, int high) {
            for (int key = 0; key < KEYS; key++) {
                rows[key] = 0;
                sums[key] = 0;
            }
            // From the last row to the first one, so that the first one of a key is put down last.
            for (int row = inner.size() - 1; row >= 0; row--) {
                int value = inner.value(row);
                int key = inner.key(row);
                if (key >= 0 && key < KEYS && value >= low && value <= high) {
                    rows[key]++;
                    sums[key] += value;
                    firstRows[key] = row;
                }
            }
        }

        int weight(int key) {
            return WEIGHT_WITHOUT_ROWS + (key >= 0 && key < rows.length ? rows[key] : 0);
        }

        int sum(int key) {
            return key >= 0 && key < sums.length ? sums[key] : 0;
        }

        int tell(int key, int what) {
            if (key < 0 || key >= KEYS) {
                return INVALID_ARGUMENT;
            }
            switch (what) {
                case 0: return rows[key];
                case 1: return weight(key);
                case 2: return sums[key];
                default: return rows[key] == 0 ? NOT_FOUND : firstRows[key];
            }
        }
    }

    /** Which answers are remembered, and when and how often they were looked up. */
    private static final class Memo {
        private static final int RAREST_FIRST = 1;
        private static final int OLDEST_FIRST = 2;
        private static final int BITS_OF_LOOKS = 32;

        /** 0 for a key without a remembered answer: the look that an answer is remembered by counts. */
        private final int[] uses = new int[KEYS];
        private final int[] lastLooks = new int[KEYS];
        private final int[] firstLooks = new int[KEYS];
        private int looks;

        Memo() {
        }

        void copyFrom(Memo from) {
            copyNumbers(from.uses, uses);
            copyNumbers(from.lastLooks, lastLooks);
            copyNumbers(from.firstLooks, firstLooks);
            looks = from.looks;
        }

        boolean holds(int key) {
            return key >= 0 && key < uses.length && uses[key] > 0;
        }

        int uses(int key) {
            return key >= 0 && key < uses.length ? uses[key] : 0;
        }

        int size() {
            int held = 0;
            for (int key = 0; key < KEYS; key++) {
                held += uses[key] > 0 ? 1 : 0;
            }
            return held;
        }

        void take(int key) {
            if (key >= 0 && key < KEYS) {
                looks++;
                uses[key] = 1;
                firstLooks[key] = looks;
                lastLooks[key] = looks;
            }
        }

        void touch(int key) {
            if (key >= 0 && key < KEYS) {
                looks++;
                uses[key]++;
                lastLooks[key] = looks;
            }
        }

        void lose(int key) {
            if (key >= 0 && key < uses.length) {
                uses[key] = 0;
            }
        }

        int loseAll() {
            int held = size();
            for (int key = 0; key < KEYS; key++) {
                uses[key] = 0;
            }
            return held;
        }

        int firstOut(int rule, int sparedKey) {
            int first = NO_KEY;
            for (int key = 0; key < KEYS; key++) {
                if (uses[key] > 0 && key != sparedKey && (first == NO_KEY || rank(key, rule) < rank(first, rule))) {
                    first = key;
                }
            }
            return first;
        }

        int placeOf(int key, int rule) {
            int ahead = 0;
            for (int other = 0; other < KEYS; other++) {
                if (uses[other] > 0 && rank(other, rule) < rank(key, rule)) {
                    ahead++;
                }
            }
            return ahead;
        }

        /** A lesser rank goes earlier. No two answers have the same: no look is the last or the first of two. */
        private long rank(int key, int rule) {
            if (key < 0 || key >= KEYS) {
                return 0;
            }
            if (rule == OLDEST_FIRST) {
                return firstLooks[key];
            }
            return (rule == RAREST_FIRST ? (long) uses[key] << BITS_OF_LOOKS : 0) + lastLooks[key];
        }
    }

    /** The states that can be gone back to. One slot more than is kept holds a change that may still be refused. */
    private static final class History {
        private static final int SLOTS = MOST_STATES + 1;

        private final State[] slots = new State[SLOTS];
        private int next;
        private int size;

        History() {
            for (int i = 0; i < SLOTS; i++) {
                slots[i] = new State();
            }
        }

        int size() {
            return size;
        }

        void prepare(State now) {
            State slot = slot(next);
            if (slot != null) {
                slot.copyFrom(now);
            }
        }

        /** Keeps the prepared state, if the change returned no error; returns what the change returned. */
        int commit(int result) {
            if (result >= 0) {
                next = (next + 1) % SLOTS;
                size = Math.min(size + 1, MOST_STATES);
            }
            return result;
        }

        State pop() {
            if (size == 0) {
                return null;
            }
            next = (next + SLOTS - 1) % SLOTS;
            size--;
            return slot(next);
        }

        private State slot(int i) {
            return i >= 0 && i < slots.length ? slots[i] : null;
        }
    }

    /**
     * The pad, and its reading, item by item (an item is a row or a deed). A reading that fails stands at the
     * character that is wrong, or, if it wants more characters, at the end: in both cases at the fault.
     */
    private static final class Pad {
        private static final int LEAST_CODE = 33;
        private static final int GREATEST_CODE = 126;

        private final int[] codes = new int[PAD_LENGTH];
        private int size;
        private boolean isReadAsDeeds;
        private int at;
        private int items;
        private int start;
        private int sign;
        private int first;
        private int second;

        Pad() {
        }

        int size() {
            return size;
        }

        int push(int code) {
            if (code < LEAST_CODE || code > GREATEST_CODE) {
                return INVALID_ARGUMENT;
            }
            if (size < 0 || size >= codes.length) {
                return LIMIT_REACHED;
            }
            codes[size] = code;
            size++;
            return size;
        }

        int empty() {
            int had = size;
            size = 0;
            return had;
        }

        /** Counts the items too, if there is no fault. */
        int findFault(boolean asDeeds) {
            open(asDeeds);
            items = 0;
            while (items < PAD_LENGTH && next()) {
                items++;
                if (at == size) {
                    return NOT_FOUND;
                }
            }
            return at;
        }

        int items() {
            return items;
        }

        void open(boolean asDeeds) {
            isReadAsDeeds = asDeeds;
            at = 0;
        }

        /** Reads the next item; false if there is none, or a fault in it. */
        boolean next() {
            if (at > 0 && !takes(isReadAsDeeds ? ';' : ',')) {
                return false;
            }
            start = at;
            return isReadAsDeeds ? readDeed() : readRow();
        }

        int start() {
            return start;
        }

        int sign() {
            return sign;
        }

        int first() {
            return first;
        }

        int second() {
            return second;
        }

        private boolean readDeed() {
            sign = code(at);
            at++;
            switch (sign) {
                case 's':
                    first = readNumber(1, MOST_STEPS);
                    return first >= 0;
                case '-':
                    first = readNumber(0, MOST_ROWS - 1);
                    return first >= 0;
                case '+':
                    return readRow();
                case 'r':
                    return true;
                default:
                    at = start;
                    return false;
            }
        }

        private boolean readRow() {
            first = readNumber(0, KEYS - 1);
            if (first < 0 || !takes(':')) {
                return false;
            }
            second = readNumber(0, HIGHEST_VALUE);
            return second >= 0;
        }

        /** Returns NOT_FOUND if there is none. `most` is 9 at least, so that no first digit is too great. */
        private int readNumber(int least, int most) {
            int digit = code(at) - '0';
            if (digit < least || digit > 9) {
                return NOT_FOUND;
            }
            at++;
            int next = code(at) - '0';
            if (digit == 0 || next < 0 || next > 9 || 10 * digit + next > most) {
                return digit;
            }
            at++;
            return 10 * digit + next;
        }

        private boolean takes(int code) {
            if (code(at) != code) {
                return false;
            }
            at++;
            return true;
        }

        /** 0, which no character of the pad is, outside of what the pad holds. */
        private int code(int position) {
            return position >= 0 && position < size && position < codes.length ? codes[position] : 0;
        }
    }

    /** The shorter length is taken, so that no copy can reach behind an array's end. */
    private static void copyNumbers(int[] from, int[] to) {
        System.arraycopy(from, 0, to, 0, Math.min(from.length, to.length));
    }
}
