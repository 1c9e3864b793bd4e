/** Promises 1 to 4: a new object, and rows that come, go and change. */
public final class RowsTest {
    private static final Check check = new Check();

    public static void main(String[] args) {
        newObject();
        addGivesNumbers();
        addRefuses();
        dropRenumbers();
        dropMovesThePlace();
        dropRefuses();
        changeGivesKeyAndValue();
        changeRefuses();
        keepingThrowsOutTheKeysOfTheRow();
        keepingThrowsAllOut();
        keepingMends();
        outerRowsLeaveAnswersAlone();
        check.end();
    }

    private static void newObject() {
        LoopMemo x = new LoopMemo();
        int[] first = {0, 0, 0, 0, 0, 0, 0, 0, 0, 0, 0, 0, 0, 12, 0, 0, 0, 99, 0, 0};
        for (int what = 0; what < first.length; what++) {
            check.due("new: count(" + what + ")", x.count(what), first[what]);
        }
        check.dueDouble("new: rate()", x.rate(), 0.0);
        check.due("new: undo()", x.undo(), LoopMemo.NOT_POSSIBLE);
        check.due("new: restore()", x.restore(), LoopMemo.NOT_POSSIBLE);
        check.due("new: why(0)", x.why(0), LoopMemo.NOT_FOUND);
        check.due("new: step(1)", x.step(1), LoopMemo.NOT_POSSIBLE);
        check.due("new: row(true, 0, 0)", x.row(true, 0, 0), LoopMemo.INVALID_ARGUMENT);
        check.due("new: remembered(0, 0)", x.remembered(0, 0), LoopMemo.NOT_FOUND);
        check.due("new: leastBound()", x.leastBound(), 0);
    }

    private static void addGivesNumbers() {
        LoopMemo x = new LoopMemo();
        for (int row = 0; row < 20; row++) {
            check.due("add: inner row " + row, x.add(true, row % 10, 5 * row), row);
            check.due("add: outer row " + row, x.add(false, 9 - row % 10, 99 - row), row);
        }
        for (int row = 0; row < 20; row++) {
            check.due("add: inner key " + row, x.row(true, row, 0), row % 10);
            check.due("add: inner value " + row, x.row(true, row, 1), 5 * row);
            check.due("add: outer key " + row, x.row(false, row, 0), 9 - row % 10);
            check.due("add: outer value " + row, x.row(false, row, 1), 99 - row);
        }
        check.due("add: the 21st inner row", x.add(true, 0, 0), LoopMemo.LIMIT_REACHED);
        check.due("add: the 21st outer row", x.add(false, 9, 99), LoopMemo.LIMIT_REACHED);
        check.due("add: a wrong key ahead of the limit", x.add(true, 10, 0), LoopMemo.INVALID_ARGUMENT);
        check.due("add: a wrong value ahead of the limit", x.add(false, 0, 100), LoopMemo.INVALID_ARGUMENT);
        check.due("add: inner rows", x.count(1), 20);
        check.due("add: outer rows", x.count(0), 20);
        check.due("drop: one of 20", x.drop(true, 19), 19);
        check.due("add: there is room again", x.add(true, 1, 1), 19);
    }

    private static void addRefuses() {
        LoopMemo x = new LoopMemo();
        int[][] wrong = {{-1, 0}, {10, 0}, {0, -1}, {0, 100}, {Integer.MIN_VALUE, 5}, {5, Integer.MAX_VALUE}};
        for (int[] row : wrong) {
            check.due("add(true, " + row[0] + ", " + row[1] + ")", x.add(true, row[0], row[1]), -1);
            check.due("add(false, " + row[0] + ", " + row[1] + ")", x.add(false, row[0], row[1]), -1);
        }
        check.due("add refused: inner rows", x.count(1), 0);
        check.due("add refused: outer rows", x.count(0), 0);
        check.due("add refused: states", x.count(19), 0);
        check.due("add: the least row", x.add(true, 0, 0), 0);
        check.due("add: the greatest row", x.add(true, 9, 99), 1);
    }

    private static void dropRenumbers() {
        LoopMemo x = new LoopMemo();
        Check.addRows(x, true, "1:10,2:20,3:30,4:40");
        Check.addRows(x, false, "5:50,6:60");
        check.due("drop(true, 1)", x.drop(true, 1), 3);
        check.due("drop: row 0 stays", x.row(true, 0, 0), 1);
        check.due("drop: row 2 is row 1", x.row(true, 1, 0), 3);
        check.due("drop: row 3 is row 2", x.row(true, 2, 1), 40);
        check.due("drop: no row 3", x.row(true, 3, 0), LoopMemo.INVALID_ARGUMENT);
        check.due("drop: the last one", x.drop(true, 2), 2);
        check.due("drop: the first one", x.drop(true, 0), 1);
        check.due("drop: what is left", x.row(true, 0, 1), 30);
        check.due("drop: outer rows stay", x.count(0), 2);
        check.due("drop(false, 0)", x.drop(false, 0), 1);
        check.due("drop: outer row 1 is row 0", x.row(false, 0, 1), 60);
        check.due("drop: the only one", x.drop(false, 0), 0);
    }

    private static void dropMovesThePlace() {
        LoopMemo x = new LoopMemo();
        Check.addRows(x, true, "1:10");
        Check.addRows(x, false, "1:1,1:2,1:3,1:4");
        x.step(2);
        check.due("drop an outer row that is not done", x.drop(false, 2), 3);
        check.due("place behind that", x.count(4), 2);
        check.due("drop the outer row done last", x.drop(false, 1), 2);
        check.due("place behind that", x.count(4), 1);
        check.due("the total stays", x.count(5), 30);
        check.due("row 0 is done", x.row(false, 0, 2), 1);
        check.due("row 1 is not done", x.row(false, 1, 2), 0);
        check.due("drop an inner row", x.drop(true, 0), 0);
        check.due("place behind that", x.count(4), 1);
    }

    private static void dropRefuses() {
        LoopMemo x = new LoopMemo();
        Check.addRows(x, true, "1:10,2:20");
        Check.addRows(x, false, "1:10");
        int[] wrong = {-1, 2, 20, Integer.MIN_VALUE, Integer.MAX_VALUE};
        for (int row : wrong) {
            check.due("drop(true, " + row + ")", x.drop(true, row), LoopMemo.INVALID_ARGUMENT);
            check.due("drop(false, " + row + ")", x.drop(false, row), LoopMemo.INVALID_ARGUMENT);
        }
        check.due("drop(false, 1)", x.drop(false, 1), LoopMemo.INVALID_ARGUMENT);
        check.due("drop refused: states", x.count(19), 3);
        check.due("drop refused: inner rows", x.count(1), 2);
    }

    private static void changeGivesKeyAndValue() {
        LoopMemo x = new LoopMemo();
        Check.addRows(x, true, "1:10,2:20");
        Check.addRows(x, false, "1:1,2:1,3:1");
        x.step(3);
        check.due("three are remembered", x.count(2), 3);
        check.due("change(1, 3, 99)", x.change(1, 3, 99), 1);
        check.due("change: the key", x.row(true, 1, 0), 3);
        check.due("change: the value", x.row(true, 1, 1), 99);
        check.due("change: the other row", x.row(true, 0, 1), 10);
        check.due("change: the answer for the new key", x.answer(3, 2), 99);
        check.due("change: the answer for the old key", x.answer(2, 0), 0);
        check.due("change: inner rows", x.count(1), 2);
    }

    private static void changeRefuses() {
        LoopMemo x = new LoopMemo();
        Check.addRows(x, false, "1:1,1:1,1:1");
        Check.addRows(x, true, "1:10,2:20");
        int[][] wrong = {{-1, 1, 1}, {2, 1, 1}, {20, 1, 1}, {0, -1, 1}, {0, 10, 1}, {0, 1, -1}, {0, 1, 100},
            {Integer.MAX_VALUE, 1, 1}, {Integer.MIN_VALUE, 1, 1}};
        for (int[] row : wrong) {
            check.due("change(" + row[0] + ", " + row[1] + ", " + row[2] + ")", x.change(row[0], row[1], row[2]), -1);
        }
        check.due("change refused: key", x.row(true, 0, 0), 1);
        check.due("change refused: value", x.row(true, 0, 1), 10);
        check.due("change to the greatest", x.change(1, 9, 99), 0);
        check.due("change to the least", x.change(0, 0, 0), 0);
    }

    /** An object that remembers answers for 1, 2, 3 and 4; the inner rows are 1:10, 2:20, 2:30, 3:40. */
    private static LoopMemo warm(int keeping) {
        LoopMemo x = new LoopMemo();
        x.set(LoopMemo.BOUND, 60);
        x.set(LoopMemo.KEEPING, keeping);
        Check.addRows(x, true, "1:10,2:20,2:30,3:40");
        Check.addRows(x, false, "1:1,2:1,3:1,4:1");
        x.step(20);
        check.due("warm: remembered", x.count(2), 4);
        return x;
    }

    private static void dueRemembered(String at, LoopMemo x, String keys) {
        for (int key = 0; key < 10; key++) {
            boolean held = keys.indexOf('0' + key) >= 0;
            check.due(at + ": is " + key + " remembered", x.remembered(key, 0) == LoopMemo.NOT_FOUND ? 0 : 1,
                    held ? 1 : 0);
        }
    }

    private static void keepingThrowsOutTheKeysOfTheRow() {
        LoopMemo x = warm(0);
        check.due("keeping 0: add", x.add(true, 4, 5), 4);
        dueRemembered("keeping 0, add", x, "123");
        check.due("keeping 0: add for a key that is not remembered", x.add(true, 7, 5), 5);
        dueRemembered("keeping 0, add elsewhere", x, "123");
        check.due("keeping 0: drop", x.drop(true, 0), 5);
        dueRemembered("keeping 0, drop", x, "23");
        check.due("keeping 0: 3 begins at another number now", x.remembered(3, 3), 2);
        check.due("keeping 0: change within a key", x.change(0, 2, 20), 1);
        dueRemembered("keeping 0, change", x, "3");
        check.due("keeping 0: thrown out", x.count(10), 3);
        check.due("keeping 0: mended", x.count(12), 0);
        check.due("keeping 0: not to make room", x.count(9), 0);
        LoopMemo y = warm(0);
        check.due("keeping 0: change from 1 to 4", y.change(0, 4, 10), 2);
        dueRemembered("keeping 0, change from 1 to 4", y, "23");
        check.due("keeping 0: both are thrown out", y.count(10), 2);
    }

    private static void keepingThrowsAllOut() {
        LoopMemo x = warm(1);
        x.add(true, 9, 5);
        check.due("keeping 1: add", x.count(2), 0);
        check.due("keeping 1: thrown out by add", x.count(10), 4);
        LoopMemo y = warm(1);
        check.due("keeping 1: change", y.change(0, 1, 10), 0);
        check.due("keeping 1: thrown out by change", y.count(10), 4);
        LoopMemo z = warm(1);
        z.drop(true, 3);
        check.due("keeping 1: thrown out by drop", z.count(10), 4);
        check.due("keeping 1: nothing is mended", z.count(12), 0);
    }

    private static void keepingMends() {
        LoopMemo x = warm(2);
        x.set(LoopMemo.BOUND, 12);
        check.due("keeping 2: their weights", x.count(3), 12);
        x.add(true, 2, 5);
        check.due("keeping 2: mended", x.count(12), 1);
        check.due("keeping 2: all are kept", x.count(2), 4);
        check.due("keeping 2: above the bound", x.count(3), 13);
        check.due("keeping 2: the rows", x.remembered(2, 0), 3);
        check.due("keeping 2: the sum", x.remembered(2, 2), 55);
        check.due("keeping 2: the looks stay", x.remembered(2, 4), 1);
        check.due("keeping 2: the place stays", x.remembered(2, 5), 1);
        check.due("keeping 2: change from 1 to 3", x.change(0, 3, 10), 4);
        check.due("keeping 2: both are mended", x.count(12), 3);
        check.due("keeping 2: 1 has no rows", x.remembered(1, 3), LoopMemo.NOT_FOUND);
        check.due("keeping 2: 3 begins with row 0", x.remembered(3, 3), 0);
        check.due("keeping 2: change within a key", x.change(0, 3, 10), 4);
        check.due("keeping 2: it is mended once", x.count(12), 4);
        check.due("keeping 2: change of a key that is not remembered", x.add(true, 8, 1), 5);
        check.due("keeping 2: it is not mended", x.count(12), 4);
        check.due("keeping 2: drop", x.drop(true, 0), 5);
        check.due("keeping 2: mended by drop", x.count(12), 5);
        check.due("keeping 2: the others are renumbered", x.remembered(2, 3), 0);
        check.due("keeping 2: nothing is thrown out", x.count(9) + x.count(10), 0);
        x.set(LoopMemo.LOW, 50);
        x.again();
        x.step(2);
        check.due("keeping 2: a row outside of the band", x.add(true, 2, 49), 5);
        check.due("keeping 2: mended, with the same rows", x.count(12), 6);
        check.due("keeping 2: no rows", x.remembered(2, 0), 0);
        x.add(true, 2, 50);
        check.due("keeping 2: a row within the band", x.remembered(2, 3), 6);
    }

    private static void outerRowsLeaveAnswersAlone() {
        for (int keeping = 0; keeping < 3; keeping++) {
            LoopMemo x = warm(keeping);
            x.add(false, 1, 1);
            x.drop(false, 0);
            check.due("outer rows, keeping " + keeping + ": remembered", x.count(2), 4);
            check.due("outer rows, keeping " + keeping + ": tallies", x.count(9) + x.count(10) + x.count(12), 0);
        }
    }
}
