import java.util.ArrayList;
import java.util.Collections;
import java.util.Comparator;
import java.util.List;
import java.util.regex.Pattern;

/**
 * The document once more, in another and plainer form than LoopMemo: remembered answers hold rows of their own, the
 * order of looks is the order of a list, and a fault is found by asking which texts can still be completed.
 */
final class PlainModel {
    private static final int INVALID = -1, NOT_POSSIBLE = -2, LIMIT = -3, NOT_FOUND = -4;
    private static final int[] HIGHEST = {60, 2, 2, 99, 99};
    private static final String ROW = "[0-9]:(0|[1-9][0-9]?)";
    private static final Pattern ROWS = Pattern.compile(ROW + "(," + ROW + ")*");
    private static final String DEED =
            "(s([1-9]|1[0-9]|20)|\\+" + ROW + "|-([0-9]|1[0-9])|r)";
    private static final Pattern DEEDS = Pattern.compile(DEED + "(;" + DEED + ")*");
    private static final String[] ROWS_ENDS = {"", "0", ":0", "0:0"};
    private static final String[] DEEDS_ENDS = {"", "0", "1", ":0", "0:0", "r"};

    /** A row that is changed is another record with the same id. */
    private record Row(int id, int key, int value) { }

    private static final class Known {
        int key;
        List<Row> rows;
        int looks = 1;

        Known copy() {
            Known other = new Known();
            other.key = key;
            other.rows = new ArrayList<>(rows);
            other.looks = looks;
            return other;
        }
    }

    private static final class State {
        List<Row> outer = new ArrayList<>();
        List<Row> inner = new ArrayList<>();
        /** The one that was looked up longest ago comes first. */
        List<Known> byLook = new ArrayList<>();
        /** The one that was remembered longest ago comes first. */
        List<Known> byArrival = new ArrayList<>();
        int[] settings = {12, 0, 0, 0, 99};
        int ids, place, total, hits, misses, cost, roomed, lost, heavy, mended;

        State copy() {
            State s = new State();
            s.outer = new ArrayList<>(outer);
            s.inner = new ArrayList<>(inner);
            for (Known known : byLook) {
                s.byLook.add(known.copy());
            }
            for (Known known : byArrival) {
                s.byArrival.add(s.known(known.key));
            }
            s.settings = settings.clone();
            s.ids = ids;
            s.place = place;
            s.total = total;
            s.hits = hits;
            s.misses = misses;
            s.cost = cost;
            s.roomed = roomed;
            s.lost = lost;
            s.heavy = heavy;
            s.mended = mended;
            return s;
        }

        Known known(int key) {
            for (Known known : byLook) {
                if (known.key == key) {
                    return known;
                }
            }
            return null;
        }

        List<Row> find(int key) {
            List<Row> found = new ArrayList<>();
            for (Row row : inner) {
                if (row.key == key && row.value >= settings[3] && row.value <= settings[4]) {
                    found.add(row);
                }
            }
            return found;
        }

        int weights() {
            int sum = 0;
            for (Known known : byLook) {
                sum += 2 + known.rows.size();
            }
            return sum;
        }

        List<Known> outOrder() {
            List<Known> order = new ArrayList<>(settings[1] == 2 ? byArrival : byLook);
            if (settings[1] == 1) {
                order.sort(Comparator.comparingInt(known -> known.looks));
            }
            return order;
        }

        void lose(Known known) {
            byLook.remove(known);
            byArrival.remove(known);
        }

        int loseAll() {
            int gone = byLook.size();
            byLook.clear();
            byArrival.clear();
            lost += gone;
            return gone;
        }

        int makeRoom(Known spared) {
            int gone = 0;
            while (weights() > settings[0]) {
                List<Known> order = outOrder();
                order.remove(spared);
                lose(order.get(0));
                gone++;
            }
            roomed += gone;
            return gone;
        }

        List<Row> look(int key) {
            Known known = known(key);
            if (known != null) {
                hits++;
                cost++;
                known.looks++;
                byLook.remove(known);
                byLook.add(known);
                return known.rows;
            }
            misses++;
            cost += 2 + inner.size();
            List<Row> rows = find(key);
            if (2 + rows.size() > settings[0]) {
                heavy++;
                return rows;
            }
            Known fresh = new Known();
            fresh.key = key;
            fresh.rows = rows;
            byLook.add(fresh);
            byArrival.add(fresh);
            makeRoom(fresh);
            return rows;
        }

        void keepTrue(int keyAhead, int keyBehind) {
            if (settings[2] == 1) {
                loseAll();
                return;
            }
            for (Known known : new ArrayList<>(byLook)) {
                if (known.key != keyAhead && known.key != keyBehind) {
                    continue;
                }
                if (settings[2] == 0) {
                    lose(known);
                    lost++;
                } else {
                    known.rows = find(known.key);
                    mended++;
                }
            }
        }

        int add(boolean toInner, int key, int value) {
            List<Row> table = toInner ? inner : outer;
            if (!isRow(key, value)) {
                return INVALID;
            }
            if (table.size() == 20) {
                return LIMIT;
            }
            table.add(new Row(ids++, key, value));
            if (toInner) {
                keepTrue(key, key);
            }
            return table.size() - 1;
        }

        int drop(boolean ofInner, int row) {
            List<Row> table = ofInner ? inner : outer;
            if (row < 0 || row >= table.size()) {
                return INVALID;
            }
            Row gone = table.remove(row);
            if (ofInner) {
                keepTrue(gone.key, gone.key);
            } else if (row < place) {
                place--;
            }
            return table.size();
        }

        int change(int row, int key, int value) {
            if (row < 0 || row >= inner.size() || !isRow(key, value)) {
                return INVALID;
            }
            Row old = inner.get(row);
            inner.set(row, new Row(old.id, key, value));
            keepTrue(old.key, key);
            return byLook.size();
        }

        int step(int steps) {
            if (steps < 1 || steps > 20) {
                return INVALID;
            }
            if (place == outer.size()) {
                return NOT_POSSIBLE;
            }
            int before = cost;
            for (int i = 0; i < steps && place < outer.size(); i++) {
                Row row = outer.get(place++);
                total += row.value * sum(look(row.key));
            }
            return cost - before;
        }

        int again() {
            int had = total;
            place = 0;
            total = 0;
            return had;
        }

        int set(int what, int value) {
            if (what < 0 || what > 4 || value < 0 || value > HIGHEST[what]) {
                return INVALID;
            }
            settings[what] = value;
            return what == 0 ? makeRoom(null) : loseAll();
        }

        int tell(List<Row> rows, int what) {
            return switch (what) {
                case 0 -> rows.size();
                case 1 -> 2 + rows.size();
                case 2 -> sum(rows);
                default -> rows.isEmpty() ? NOT_FOUND : inner.indexOf(rows.get(0));
            };
        }
    }

    private State now = new State();
    private State snapshot;
    private final List<State> history = new ArrayList<>();
    private String pad = "";
    private int[] stop;

    private static boolean isRow(int key, int value) {
        return key >= 0 && key <= 9 && value >= 0 && value <= 99;
    }

    private static int sum(List<Row> rows) {
        int sum = 0;
        for (Row row : rows) {
            sum += row.value;
        }
        return sum;
    }

    private int kept(State before, int result) {
        if (result >= 0) {
            history.add(before);
            if (history.size() > 4) {
                history.remove(0);
            }
        }
        return result;
    }

    int add(boolean inner, int key, int value) {
        State before = now.copy();
        return kept(before, now.add(inner, key, value));
    }

    int drop(boolean inner, int row) {
        State before = now.copy();
        return kept(before, now.drop(inner, row));
    }

    int change(int row, int key, int value) {
        State before = now.copy();
        return kept(before, now.change(row, key, value));
    }

    int step(int steps) {
        State before = now.copy();
        return kept(before, now.step(steps));
    }

    int again() {
        State before = now.copy();
        return kept(before, now.again());
    }

    int forget() {
        State before = now.copy();
        return kept(before, now.loseAll());
    }

    int set(int what, int value) {
        State before = now.copy();
        return kept(before, now.set(what, value));
    }

    int append(int code) {
        if (code < 33 || code > 126) {
            return INVALID;
        }
        if (pad.length() == 60) {
            return LIMIT;
        }
        pad += (char) code;
        return pad.length();
    }

    int clear() {
        int had = pad.length();
        pad = "";
        return had;
    }

    private static boolean canBeCompleted(String text, Pattern kind, String[] ends) {
        for (String end : ends) {
            if (kind.matcher(text + end).matches()) {
                return true;
            }
        }
        return false;
    }

    int fault(int way) {
        if (way < 0 || way > 1) {
            return INVALID;
        }
        Pattern kind = way == 0 ? ROWS : DEEDS;
        if (kind.matcher(pad).matches()) {
            return NOT_FOUND;
        }
        for (int i = 0; i < pad.length(); i++) {
            if (!canBeCompleted(pad.substring(0, i + 1), kind, way == 0 ? ROWS_ENDS : DEEDS_ENDS)) {
                return i;
            }
        }
        return pad.length();
    }

    int fill(boolean inner) {
        if (fault(0) != NOT_FOUND) {
            return NOT_POSSIBLE;
        }
        String[] rows = pad.split(",");
        List<Row> table = inner ? now.inner : now.outer;
        if (table.size() + rows.length > 20) {
            return LIMIT;
        }
        State before = now.copy();
        for (String row : rows) {
            String[] parts = row.split(":");
            now.add(inner, Integer.parseInt(parts[0]), Integer.parseInt(parts[1]));
        }
        pad = "";
        return kept(before, table.size());
    }

    private int obey(String deed) {
        String rest = deed.substring(1);
        switch (deed.charAt(0)) {
            case 's':
                return now.step(Integer.parseInt(rest));
            case '-':
                return now.drop(true, Integer.parseInt(rest));
            case '+':
                return now.add(true, Integer.parseInt(rest.substring(0, 1)), Integer.parseInt(rest.substring(2)));
            default:
                return now.again();
        }
    }

    int carryOut() {
        if (fault(1) != NOT_FOUND) {
            return NOT_POSSIBLE;
        }
        State before = now.copy();
        String[] deeds = pad.split(";");
        int done = 0;
        int position = 0;
        stop = null;
        for (String deed : deeds) {
            int result = obey(deed);
            if (result < 0) {
                stop = new int[] {result, done, position};
                break;
            }
            done++;
            position += deed.length() + 1;
        }
        pad = "";
        return kept(before, done);
    }

    int why(int what) {
        if (what < 0 || what > 2) {
            return INVALID;
        }
        return stop == null ? NOT_FOUND : stop[what];
    }

    int row(boolean inner, int row, int what) {
        List<Row> table = inner ? now.inner : now.outer;
        if (row < 0 || row >= table.size() || what < 0 || what > 2) {
            return INVALID;
        }
        Row told = table.get(row);
        if (what < 2) {
            return what == 0 ? told.key : told.value;
        }
        if (!inner) {
            return row < now.place ? 1 : 0;
        }
        for (Known known : now.byLook) {
            if (known.rows.contains(told)) {
                return 1;
            }
        }
        return 0;
    }

    int answer(int key, int what) {
        return key < 0 || key > 9 || what < 0 || what > 3 ? INVALID : now.tell(now.find(key), what);
    }

    int remembered(int key, int what) {
        if (key < 0 || key > 9 || what < 0 || what > 5) {
            return INVALID;
        }
        Known known = now.known(key);
        if (known == null) {
            return NOT_FOUND;
        }
        if (what == 5) {
            return now.outOrder().indexOf(known);
        }
        return what == 4 ? known.looks : now.tell(known.rows, what);
    }

    int count(int what) {
        if (what < 0 || what > 19) {
            return INVALID;
        }
        int[] numbers = {
            now.outer.size(), now.inner.size(), now.byLook.size(), now.weights(), now.place, now.total, now.hits,
            now.misses, now.cost, now.roomed, now.lost, now.heavy, now.mended, now.settings[0], now.settings[1],
            now.settings[2], now.settings[3], now.settings[4], pad.length(), history.size()};
        return numbers[what];
    }

    int total(int way) {
        if (way < 0 || way > 1) {
            return INVALID;
        }
        int total = 0;
        for (Row row : now.outer) {
            Known known = way == 0 ? now.known(row.key) : null;
            total += row.value * sum(known == null ? now.find(row.key) : known.rows);
        }
        return total;
    }

    double rate() {
        return now.hits + now.misses == 0 ? 0.0 : (double) now.hits / (now.hits + now.misses);
    }

    int ifBound(int bound, int what) {
        if (bound < 0 || bound > 60 || what < 0 || what > 3) {
            return INVALID;
        }
        State trial = now.copy();
        trial.set(0, bound);
        while (trial.place < trial.outer.size()) {
            trial.step(1);
        }
        int[] brought = {
            trial.cost - now.cost, trial.hits - now.hits, trial.misses - now.misses, trial.roomed - now.roomed};
        return brought[what];
    }

    int ifOrdered(int order) {
        if (order < 0 || order > 2) {
            return INVALID;
        }
        State trial = now.copy();
        List<Row> left = trial.outer.subList(trial.place, trial.outer.size());
        if (order == 1) {
            left.sort(Comparator.comparingInt(row -> row.key));
        } else if (order == 2) {
            Collections.reverse(left);
        }
        while (trial.place < trial.outer.size()) {
            trial.step(1);
        }
        return trial.cost - now.cost;
    }

    int leastBound() {
        int least = 60;
        for (int bound = 60; bound >= 0; bound--) {
            if (ifBound(bound, 0) <= ifBound(least, 0)) {
                least = bound;
            }
        }
        return least;
    }

    int undo() {
        if (history.isEmpty()) {
            return NOT_POSSIBLE;
        }
        now = history.remove(history.size() - 1);
        return history.size();
    }

    int save() {
        snapshot = now.copy();
        return now.byLook.size();
    }

    int restore() {
        if (snapshot == null) {
            return NOT_POSSIBLE;
        }
        history.add(now);
        if (history.size() > 4) {
            history.remove(0);
        }
        now = snapshot.copy();
        return now.byLook.size();
    }
}
