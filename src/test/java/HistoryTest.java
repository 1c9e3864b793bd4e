/** Promises 24 to 26, and which calls are changes: undo, and a snapshot. */
public final class HistoryTest {
    private static final Check check = new Check();

    public static void main(String[] args) {
        everyChangeIsRecorded();
        noOtherCallIsRecorded();
        fourStatesAreKept();
        undoBringsAllBack();
        undoBringsTheOrderBack();
        undoLeavesPadAndSnapshot();
        refusedCallsLeaveTheHistory();
        snapshotIsRestored();
        snapshotStays();
        restoreIsAChange();
        undoAcrossTheSnapshot();
        check.end();
    }

    private static void everyChangeIsRecorded() {
        LoopMemo x = new LoopMemo();
        x.add(false, 1, 1);
        check.due("add", x.count(19), 1);
        x.step(1);
        check.due("step", x.count(19), 2);
        x.again();
        check.due("again", x.count(19), 3);
        x.forget();
        check.due("forget", x.count(19), 4);
        check.due("undo forget", x.undo(), 3);
        check.due("the answer is back", x.count(2), 1);
        check.due("undo again", x.undo(), 2);
        check.due("the place is back", x.count(4), 1);
        x.set(LoopMemo.BOUND, 12);
        check.due("set to the value that it has", x.count(19), 3);
        x.undo();
        x.add(true, 1, 1);
        x.undo();
        check.due("the answer is back", x.count(2), 1);
        check.due("undo step", x.undo(), 1);
        check.due("no answer", x.count(2), 0);
        Check.type(x, "1:5");
        x.fill(true);
        check.due("fill", x.count(19), 2);
        x.change(0, 1, 5);
        check.due("change to what it is", x.count(19), 3);
        x.drop(true, 0);
        check.due("drop", x.count(19), 4);
        x.undo();
        x.undo();
        Check.type(x, "r");
        x.carryOut();
        check.due("carryOut", x.count(19), 3);
        x.save();
        x.restore();
        check.due("restore", x.count(19), 4);
        x.undo();
        x.undo();
        x.forget();
        check.due("forget without answers", x.count(19), 3);
    }

    private static void noOtherCallIsRecorded() {
        LoopMemo x = new LoopMemo();
        x.add(false, 1, 1);
        Check.type(x, "r;r");
        x.fault(1);
        x.clear();
        x.save();
        x.ifBound(5, 0);
        x.ifOrdered(2);
        x.leastBound();
        x.why(0);
        check.due("states", x.count(19), 1);
    }

    private static void fourStatesAreKept() {
        LoopMemo x = new LoopMemo();
        for (int i = 0; i < 9; i++) {
            x.add(true, 1, i);
            check.due("states behind " + (i + 1) + " changes", x.count(19), Math.min(4, i + 1));
        }
        for (int left = 3; left >= 0; left--) {
            check.due("undo()", x.undo(), left);
            check.due("rows", x.count(1), 5 + left);
        }
        check.due("undo() without states", x.undo(), LoopMemo.NOT_POSSIBLE);
        check.due("rows", x.count(1), 5);
        x.add(true, 1, 1);
        x.add(true, 1, 1);
        check.due("states grow again", x.count(19), 2);
        check.due("undo()", x.undo(), 1);
        check.due("rows", x.count(1), 6);
    }

    /** Band 0 to 50, keeping 2, bound 7: three answers, of which one made room. */
    private static LoopMemo used() {
        LoopMemo x = new LoopMemo();
        x.set(LoopMemo.BOUND, 7);
        x.set(LoopMemo.KEEPING, 2);
        x.set(LoopMemo.HIGH, 50);
        Check.addRows(x, true, "1:10,2:20,3:30,1:60");
        Check.addRows(x, false, "1:1,2:2,1:3,3:4,2:5");
        x.step(4);
        return x;
    }

    private static String told(LoopMemo x) {
        StringBuilder text = new StringBuilder();
        for (int what = 0; what < 18; what++) {
            text.append(x.count(what)).append(' ');
        }
        for (int row = 0; row < Math.max(x.count(0), x.count(1)); row++) {
            for (int what = 0; what <= 2; what++) {
                text.append(x.row(true, row, what)).append(' ').append(x.row(false, row, what)).append(' ');
            }
        }
        for (int key = 0; key <= 5; key++) {
            for (int what = 0; what <= 5; what++) {
                text.append(x.answer(key, what)).append(' ').append(x.remembered(key, what)).append(' ');
            }
        }
        return text.append(x.rate()).toString();
    }

    private static void undoBringsAllBack() {
        for (int i = 0; i < 10; i++) {
            LoopMemo x = used();
            String before = told(x);
            change(x, i);
            check.due("change " + i + " changes something", told(x).equals(before) ? 1 : 0, 0);
            check.due("undo() of change " + i, x.undo(), 3);
            check.dueText("all behind undo of change " + i, told(x), before);
            check.due("the step behind undo of change " + i, x.step(1), 6);
        }
    }

    private static void change(LoopMemo x, int i) {
        switch (i) {
            case 0: x.add(true, 1, 5); break;
            case 1: x.drop(false, 0); break;
            case 2: x.change(2, 1, 1); break;
            case 3: x.step(1); break;
            case 4: x.again(); break;
            case 5: x.forget(); break;
            case 6: x.set(LoopMemo.RULE, 2); break;
            case 7: Check.type(x, "3:3,4:4"); x.fill(true); break;
            case 8: Check.type(x, "s1;r;-0;s2"); x.carryOut(); break;
            default: x.set(LoopMemo.BOUND, 3); break;
        }
    }

    private static void undoBringsTheOrderBack() {
        for (int rule = 0; rule < 3; rule++) {
            LoopMemo x = new LoopMemo();
            x.set(LoopMemo.RULE, rule);
            Check.addRows(x, false, "3:1,2:1,1:1,3:1,1:1,2:1,4:1");
            x.step(5);
            int[] places = new int[10];
            for (int key = 0; key < 10; key++) {
                places[key] = x.remembered(key, 5);
            }
            x.save();
            x.forget();
            x.step(2);
            x.again();
            x.step(3);
            x.restore();
            for (int key = 0; key < 10; key++) {
                check.due("rule " + rule + ": place of " + key + ", restored", x.remembered(key, 5), places[key]);
            }
            for (int i = 0; i < 4; i++) {
                x.undo();
            }
            check.due("rule " + rule + ": place of 3, undone", x.remembered(3, 5), LoopMemo.NOT_FOUND);
            x.restore();
            x.forget();
            x.undo();
            for (int key = 0; key < 10; key++) {
                check.due("rule " + rule + ": place of " + key + ", undone", x.remembered(key, 5), places[key]);
            }
        }
    }

    private static void undoLeavesPadAndSnapshot() {
        LoopMemo x = new LoopMemo();
        x.add(true, 1, 1);
        x.save();
        x.add(true, 2, 2);
        Check.type(x, "1:5");
        x.undo();
        x.undo();
        check.due("the pad stays", x.count(18), 3);
        check.due("it is what it was", x.fault(0), LoopMemo.NOT_FOUND);
        check.due("no rows", x.count(1), 0);
        x.restore();
        check.due("the snapshot stays", x.count(1), 1);
        x.fill(true);
        x.undo();
        check.due("the pad is not undone", x.count(18), 0);
    }

    private static void refusedCallsLeaveTheHistory() {
        LoopMemo x = used();
        check.due("states", x.count(19), 4);
        x.add(true, -1, 0);
        x.drop(true, 20);
        x.change(9, 1, 1);
        x.step(0);
        x.set(9, 0);
        x.fill(true);
        x.carryOut();
        x.restore();
        check.due("states", x.count(19), 4);
        check.due("undo() undoes the step", x.undo(), 3);
        check.due("place", x.count(4), 0);
        for (int rows = 4; rows >= 2; rows--) {
            check.due("undo() undoes a row", x.undo(), rows - 2);
            check.due("rows", x.count(0), rows);
        }
        check.due("no more states", x.undo(), LoopMemo.NOT_POSSIBLE);
    }

    private static void snapshotIsRestored() {
        for (int i = 0; i < 10; i++) {
            LoopMemo x = used();
            check.due("save()", x.save(), 2);
            String before = told(x);
            change(x, i);
            check.due("restore() behind change " + i, x.restore(), 2);
            check.dueText("all behind restore of change " + i, told(x), before);
        }
    }

    private static void snapshotStays() {
        LoopMemo x = new LoopMemo();
        check.due("restore() without one", x.restore(), LoopMemo.NOT_POSSIBLE);
        check.due("save()", x.save(), 0);
        check.due("save() is no change", x.count(19), 0);
        x.add(true, 1, 1);
        check.due("restore()", x.restore(), 0);
        check.due("rows", x.count(1), 0);
        x.add(true, 2, 2);
        x.restore();
        check.due("rows, restored twice", x.count(1), 0);
        x.add(false, 3, 3);
        x.step(1);
        check.due("save() in place of that one", x.save(), 1);
        x.forget();
        check.due("restore()", x.restore(), 1);
        check.due("outer rows", x.count(0), 1);
    }

    private static void restoreIsAChange() {
        LoopMemo x = new LoopMemo();
        x.save();
        x.add(true, 1, 1);
        x.add(true, 1, 2);
        Check.type(x, "1:5");
        x.restore();
        check.due("the history is not restored", x.count(19), 3);
        check.due("the pad is not restored", x.count(18), 3);
        check.due("undo() of restore()", x.undo(), 2);
        check.due("rows", x.count(1), 2);
        check.due("undo()", x.undo(), 1);
        check.due("rows", x.count(1), 1);
    }

    private static void undoAcrossTheSnapshot() {
        LoopMemo x = new LoopMemo();
        x.add(true, 1, 1);
        x.undo();
        x.save();
        x.undo();
        x.add(true, 2, 2);
        x.save();
        x.undo();
        check.due("rows", x.count(1), 0);
        x.restore();
        check.due("the later snapshot is the one", x.count(1), 1);
        check.due("its key", x.row(true, 0, 0), 2);
    }
}
