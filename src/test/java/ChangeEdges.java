import java.io.IOException;
import java.io.UncheckedIOException;
import java.lang.reflect.Method;
import java.lang.reflect.Modifier;
import java.nio.file.Files;
import java.nio.file.Path;
import java.util.LinkedHashMap;
import java.util.Map;
import java.util.function.Supplier;
import java.util.function.ToIntFunction;
import java.util.regex.Matcher;
import java.util.regex.Pattern;

/** A test for each sentence of 'Changes and errors' and of promises 18 and 24 to 26. */
final class ChangeEdges {
    private static final int[] FAR = {Integer.MIN_VALUE, -100, Integer.MAX_VALUE};
    private static final Path SOURCE = Path.of("src/main/java/LoopMemo.java");

    private ChangeEdges() {
    }

    static void all(Sentences s) {
        s.section("Terms");
        s.holds("All numbers are whole numbers, but where a double is told.", ChangeEdges::wholeNumbers);
        changes(s);
        errors(s);
        faces(s);
        count(s);
        history(s);
    }

    private static void changes(Sentences s) {
        s.section("Changes and errors");
        s.holds("The changes are the calls of add, drop, change, step, again, forget, set, fill, carryOut and restore",
                ChangeEdges::tenChanges);
        s.holds("that return no error.", ChangeEdges::refusedCallsAreNoChanges);
        s.holds("A history of at most 4 states is kept:", ChangeEdges::fourStates);
        s.holds("each change records everything before it but the pad, the snapshot and why()",
                ChangeEdges::everythingIsRecorded);
        s.holds("(also if nothing is different then),", ChangeEdges::changesOfNothing);
        s.holds("and if there are 5 states then, the oldest one is dropped.", ChangeEdges::oldestIsDropped);
    }

    private static void errors(Sentences s) {
        s.holds("If several errors apply to a call, INVALID_ARGUMENT is returned rather than NOT_POSSIBLE,",
                ChangeEdges::invalidAheadOfNotPossible);
        s.holds("NOT_POSSIBLE rather than LIMIT_REACHED,", ChangeEdges::notPossibleAheadOfLimit);
        s.holds("and LIMIT_REACHED rather than NOT_FOUND.", ChangeEdges::limitAheadOfNotFound);
        s.holds("If there is no row or key of a certain number, this is INVALID_ARGUMENT.",
                ChangeEdges::noSuchRowOrKey);
        s.holds("A call that returns an error changes nothing (the pad stays, too).",
                ChangeEdges::refusedCallsChangeNothing);
        s.holds("The constants: INVALID_ARGUMENT = -1: An argument is out of its range, or there is no such row.",
                ChangeEdges::invalidArgument);
        s.holds("NOT_POSSIBLE = -2: The call is not possible in the present state.", ChangeEdges::notPossible);
        s.holds("LIMIT_REACHED = -3: A fixed limit has been reached.", ChangeEdges::limitReached);
        s.holds("NOT_FOUND = -4: There is no such value.", ChangeEdges::notFound);
        s.holds("BOUND = 0, RULE = 1, KEEPING = 2, LOW = 3, HIGH = 4: Numbers of the settings.",
                ChangeEdges::numbersOfSettings);
    }

    private static void faces(Sentences s) {
        s.holds("Ahead of the calls add, drop, change the interface says: ---- rows.",
                c -> dueAhead(c, "---- rows", "add drop change"));
        s.holds("Ahead of the calls step, again, forget, set the interface says: ---- the loop, what is remembered.",
                c -> dueAhead(c, "---- the loop, what is remembered", "step again forget set"));
        s.holds("Ahead of the calls append, clear, fault, fill, carryOut, why the interface says: ---- texts.",
                c -> dueAhead(c, "---- texts", "append clear fault fill carryOut why"));
        s.holds("Ahead of the calls row, answer, remembered, count, total, rate the interface says: ---- looks; "
                + "nothing is changed.", c -> looks(c, "row answer remembered count total rate"));
        s.holds("Ahead of the calls ifBound, ifOrdered, leastBound the interface says: ---- what would be; nothing is "
                + "changed.", c -> whatWouldBe(c, "ifBound ifOrdered leastBound"));
        s.holds("Ahead of the calls undo, save, restore the interface says: ---- history, snapshot.",
                c -> dueAhead(c, "---- history, snapshot", "undo save restore"));
    }

    private static void count(Sentences s) {
        s.section("Promise 18: count");
        s.holds("int count(int what): Returns a number.", ChangeEdges::countOfANewObject);
        s.holds("what: 0: outer rows; 1: inner rows;", ChangeEdges::countsRows);
        s.holds("2: remembered answers; 3: their weights together;", ChangeEdges::countsAnswers);
        s.holds("4: the place of the loop; 5: the total;", ChangeEdges::countsTheLoop);
        s.holds("and so far 6: hits; 7: misses; 8: what all steps cost;", ChangeEdges::countsLooksSoFar);
        s.holds("9: answers that were thrown out to make room or by a lesser BOUND;", ChangeEdges::countsRoom);
        s.holds("10: answers that were thrown out otherwise, or forgotten;", ChangeEdges::countsOthers);
        s.holds("11: answers that were too heavy;", ChangeEdges::countsTooHeavy);
        s.holds("12: answers that were mended (each time, also if they have the same rows then);",
                ChangeEdges::countsMended);
        s.holds("and 13 to 17: the settings 0 to 4;", ChangeEdges::countsSettings);
        s.holds("18: the length of the pad;", ChangeEdges::countsThePad);
        s.holds("19: states in the history", ChangeEdges::countsStates);
        s.holds("Returns the number; INVALID_ARGUMENT.", ChangeEdges::countTakes0To19);
    }

    private static void history(Sentences s) {
        s.section("Promise 24: undo");
        s.holds("int undo(): Undoes the latest change:", ChangeEdges::undoesTheLatest);
        s.holds("everything but the pad, the snapshot and why() is as it was before it.", ChangeEdges::undoLeavesThree);
        s.holds("Returns how many states the history has then;", ChangeEdges::undoReturnsStates);
        s.holds("NOT_POSSIBLE if it has none.", ChangeEdges::undoWithoutStates);

        s.section("Promise 25: save");
        s.holds("int save(): Takes a snapshot of everything but the pad, the history and why(),",
                ChangeEdges::savesAllButThree);
        s.holds("in place of the one that was.", ChangeEdges::savesInPlace);
        s.holds("Returns how many answers are remembered.", ChangeEdges::saveReturnsRemembered);

        s.section("Promise 26: restore");
        s.holds("int restore(): Restores the snapshot, which stays.", ChangeEdges::snapshotStays);
        s.holds("Returns how many answers are remembered then;", ChangeEdges::restoreReturnsRemembered);
        s.holds("NOT_POSSIBLE if there is none.", ChangeEdges::restoreWithoutASnapshot);
    }

    /** All that the looks tell, but the pad, the history and why(). */
    private static String told(LoopMemo x) {
        StringBuilder text = new StringBuilder();
        for (int what = 0; what <= 17; what++) {
            text.append(x.count(what)).append(' ');
        }
        for (int row = 0; row < Math.max(x.count(0), x.count(1)); row++) {
            for (int what = 0; what <= 2; what++) {
                text.append(x.row(true, row, what)).append(' ').append(x.row(false, row, what)).append(' ');
            }
        }
        for (int key = 0; key <= 5; key++) {
            text.append(x.answer(key, 2)).append(' ').append(x.answer(key, 3)).append(' ');
            for (int what = 0; what <= 5; what++) {
                text.append(x.remembered(key, what)).append(' ');
            }
        }
        return text.append(x.rate()).append(' ').append(x.ifBound(60, 0)).toString();
    }

    private static String toldWithTheRest(LoopMemo x) {
        StringBuilder text = new StringBuilder(told(x));
        for (int what = 0; what <= 2; what++) {
            text.append(' ').append(x.why(what));
        }
        text.append(' ').append(x.count(18)).append(' ').append(x.count(19)).append(' ').append(x.fault(0));
        return text.append(' ').append(x.fault(1)).toString();
    }

    /** Rows, answers above a bound, a loop in its middle, a pad, a full history, a snapshot, and a stop. */
    private static LoopMemo used() {
        LoopMemo x = new LoopMemo();
        x.set(LoopMemo.BOUND, 6);
        x.set(LoopMemo.KEEPING, 2);
        x.set(LoopMemo.HIGH, 50);
        Check.addRows(x, true, "1:10,2:20,3:60");
        Check.addRows(x, false, "1:1,2:2,1:3,4:4");
        x.step(3);
        x.save();
        x.add(true, 1, 1);
        Check.type(x, "+2:5;-19");
        x.carryOut();
        Check.type(x, "1:5,2");
        return x;
    }

    /** One call for each of the changes; each of them leaves something else. */
    private static Map<String, ToIntFunction<LoopMemo>> changesOf() {
        Map<String, ToIntFunction<LoopMemo>> changes = new LinkedHashMap<>();
        changes.put("add(true)", x -> x.add(true, 1, 5));
        changes.put("add(false)", x -> x.add(false, 1, 5));
        changes.put("drop(true)", x -> x.drop(true, 0));
        changes.put("drop(false)", x -> x.drop(false, 0));
        changes.put("change", x -> x.change(0, 2, 7));
        changes.put("step", x -> x.step(1));
        changes.put("again", x -> x.again());
        changes.put("forget", x -> x.forget());
        changes.put("set", x -> x.set(LoopMemo.LOW, 3));
        changes.put("set to a lesser bound", x -> x.set(LoopMemo.BOUND, 2));
        changes.put("fill", x -> {
            Check.type(x, "3:3,1:4");
            return x.fill(true);
        });
        changes.put("carryOut", x -> {
            Check.type(x, "+1:3;r;s2");
            return x.carryOut();
        });
        changes.put("restore", x -> x.restore());
        return changes;
    }

    /** Calls that return an error on what used() gives. */
    private static Map<String, ToIntFunction<LoopMemo>> refusedOf() {
        Map<String, ToIntFunction<LoopMemo>> refused = new LinkedHashMap<>();
        refused.put("add, a key", x -> x.add(true, 10, 0));
        refused.put("add, a value", x -> x.add(false, 0, 100));
        refused.put("drop, inner", x -> x.drop(true, 5));
        refused.put("drop, outer", x -> x.drop(false, -1));
        refused.put("change, a row", x -> x.change(5, 1, 1));
        refused.put("change, a key", x -> x.change(0, -1, 1));
        refused.put("change, a value", x -> x.change(0, 1, 100));
        refused.put("step, 0", x -> x.step(0));
        refused.put("step, 21", x -> x.step(21));
        refused.put("set, a setting", x -> x.set(5, 0));
        refused.put("set, a value", x -> x.set(LoopMemo.BOUND, 61));
        refused.put("set, another value", x -> x.set(LoopMemo.RULE, 3));
        refused.put("append", x -> x.append(127));
        refused.put("fault", x -> x.fault(2));
        refused.put("fill", x -> x.fill(true));
        refused.put("carryOut", x -> x.carryOut());
        refused.put("why", x -> x.why(3));
        refused.put("row", x -> x.row(true, 5, 0));
        refused.put("answer", x -> x.answer(10, 0));
        refused.put("remembered, a key", x -> x.remembered(10, 0));
        refused.put("remembered, none", x -> x.remembered(9, 0));
        refused.put("count", x -> x.count(20));
        refused.put("total", x -> x.total(2));
        refused.put("ifBound", x -> x.ifBound(61, 0));
        refused.put("ifOrdered", x -> x.ifOrdered(3));
        return refused;
    }

    private static void wholeNumbers(Check c) {
        for (Method method : LoopMemo.class.getDeclaredMethods()) {
            if (Modifier.isPublic(method.getModifiers())) {
                String want = method.getName().equals("rate") ? "double" : "int";
                c.dueText("what " + method.getName() + " tells", method.getReturnType().toString(), want);
            }
        }
    }

    private static void tenChanges(Check c) {
        for (Map.Entry<String, ToIntFunction<LoopMemo>> change : changesOf().entrySet()) {
            LoopMemo x = used();
            x.undo();
            c.due("states ahead of " + change.getKey(), x.count(19), 3);
            c.due(change.getKey() + " returns an error", Math.min(0, change.getValue().applyAsInt(x)), 0);
            c.due("states behind " + change.getKey(), x.count(19), 4);
        }
        LoopMemo x = used();
        x.undo();
        Check.type(x, "r;r");
        x.fault(1);
        x.why(0);
        x.save();
        told(x);
        x.ifOrdered(1);
        x.leastBound();
        x.clear();
        c.due("states behind all other calls but undo", x.count(19), 3);
        c.due("undo is no change", x.undo(), 2);
    }

    private static void refusedCallsAreNoChanges(Check c) {
        for (Map.Entry<String, ToIntFunction<LoopMemo>> call : refusedOf().entrySet()) {
            LoopMemo x = used();
            x.undo();
            c.due(call.getKey() + " returns an error", call.getValue().applyAsInt(x) < 0 ? 1 : 0, 1);
            c.due("states behind " + call.getKey(), x.count(19), 3);
        }
        LoopMemo x = new LoopMemo();
        x.restore();
        x.step(1);
        x.undo();
        c.due("states behind calls that are not possible", x.count(19), 0);
        for (int i = 0; i < 20; i++) {
            x.add(true, 1, 1);
        }
        for (int i = 0; i < 4; i++) {
            x.undo();
        }
        for (int i = 0; i < 4; i++) {
            x.add(true, 1, 1);
        }
        c.due("a table that is full", x.add(true, 1, 1), LoopMemo.LIMIT_REACHED);
        c.due("undo() undoes the last row that came", x.undo(), 3);
        c.due("rows", x.count(1), 19);
    }

    private static void fourStates(Check c) {
        LoopMemo x = new LoopMemo();
        for (int i = 1; i <= 20; i++) {
            c.due("rows behind " + i, x.add(true, 1, i) + 1, i);
            c.due("states behind " + i, x.count(19), i < 4 ? i : 4);
        }
        for (int left = 3; left >= 0; left--) {
            c.due("undo()", x.undo(), left);
        }
        c.due("a fifth undo()", x.undo(), LoopMemo.NOT_POSSIBLE);
        c.due("rows", x.count(1), 16);
    }

    private static void everythingIsRecorded(Check c) {
        for (Map.Entry<String, ToIntFunction<LoopMemo>> change : changesOf().entrySet()) {
            LoopMemo x = used();
            String before = told(x);
            change.getValue().applyAsInt(x);
            c.due(change.getKey() + " leaves all as it was", told(x).equals(before) ? 1 : 0, 0);
            int pad = x.count(18);
            c.due("undo() of " + change.getKey(), x.undo(), 3);
            c.dueText("all behind undo() of " + change.getKey(), told(x), before);
            c.due("the pad behind undo() of " + change.getKey(), x.count(18), pad);
        }
    }

    private static void changesOfNothing(Check c) {
        LoopMemo x = new LoopMemo();
        x.again();
        c.due("again() of a new object", x.count(19), 1);
        x.forget();
        c.due("forget() without answers", x.count(19), 2);
        x.set(LoopMemo.BOUND, 12);
        c.due("set() to the value that it has", x.count(19), 3);
        x.save();
        x.restore();
        c.due("restore() of what is", x.count(19), 4);
        for (int left = 3; left >= 0; left--) {
            c.due("undo()", x.undo(), left);
        }
        x.add(true, 1, 1);
        x.change(0, 1, 1);
        c.due("change() to what it is", x.count(19), 2);
        Check.type(x, "-19");
        x.carryOut();
        c.due("carryOut() of nothing", x.count(19), 3);
    }

    private static void oldestIsDropped(Check c) {
        for (int changes = 4; changes <= 14; changes++) {
            LoopMemo x = new LoopMemo();
            for (int i = 0; i < changes; i++) {
                x.add(true, 1, i);
            }
            for (int back = 1; back <= 4; back++) {
                c.due(changes + " changes: undo() number " + back, x.undo(), 4 - back);
                c.due(changes + " changes: rows behind undo() number " + back, x.count(1), changes - back);
            }
            c.due(changes + " changes: undo() number 5", x.undo(), LoopMemo.NOT_POSSIBLE);
            c.due(changes + " changes: rows", x.count(1), changes - 4);
        }
        LoopMemo x = new LoopMemo();
        for (int i = 0; i < 30; i++) {
            x.set(LoopMemo.LOW, i);
            x.set(LoopMemo.LOW, 50 + i);
            x.undo();
        }
        for (int back = 1; back <= 3; back++) {
            c.due("undo() behind many: states", x.undo(), 3 - back);
            c.due("undo() behind many: LOW", x.count(16), 29 - back);
        }
    }

    private static void invalidAheadOfNotPossible(Check c) {
        LoopMemo x = new LoopMemo();
        c.due("step(0) of a loop that is done", x.step(0), LoopMemo.INVALID_ARGUMENT);
        c.due("step(21) of a loop that is done", x.step(21), LoopMemo.INVALID_ARGUMENT);
        c.due("step(20) of a loop that is done", x.step(20), LoopMemo.NOT_POSSIBLE);
        for (int i = 0; i < 20; i++) {
            x.add(true, 1, 1);
        }
        c.due("add() of a wrong key to a full table", x.add(true, -1, 1), LoopMemo.INVALID_ARGUMENT);
        c.due("add() of a wrong value to a full table", x.add(true, 1, -1), LoopMemo.INVALID_ARGUMENT);
        Check.type(x, "r;".repeat(30));
        c.due("append() of a wrong code to a full pad", x.append(32), LoopMemo.INVALID_ARGUMENT);
        c.due("why() of a wrong number without a stop", x.why(3), LoopMemo.INVALID_ARGUMENT);
        c.due("remembered() of a wrong number without an answer", x.remembered(1, 6), LoopMemo.INVALID_ARGUMENT);
        c.due("answer() of a wrong number without rows", x.answer(2, 4), LoopMemo.INVALID_ARGUMENT);
        c.due("fault() of a wrong way without a fault", x.fault(2), LoopMemo.INVALID_ARGUMENT);
    }

    private static void notPossibleAheadOfLimit(Check c) {
        for (int table = 0; table <= 1; table++) {
            LoopMemo x = new LoopMemo();
            for (int i = 0; i < 20; i++) {
                x.add(table == 1, 1, 1);
            }
            Check.type(x, "1:5,2:6,");
            c.due("fill() of a full table with a fault", x.fill(table == 1), LoopMemo.NOT_POSSIBLE);
            Check.type(x, "");
            c.due("fill() of a full table without a text", x.fill(table == 1), LoopMemo.NOT_POSSIBLE);
            Check.type(x, "1:5,2:6");
            c.due("fill() of a full table without a fault", x.fill(table == 1), LoopMemo.LIMIT_REACHED);
        }
    }

    /** No call of the face returns both; where a limit is reached, what is not found elsewhere makes no difference. */
    private static void limitAheadOfNotFound(Check c) {
        LoopMemo x = new LoopMemo();
        for (int i = 0; i < 20; i++) {
            x.add(true, 1, 1);
        }
        c.due("no answer is remembered for 2", x.remembered(2, 0), LoopMemo.NOT_FOUND);
        c.due("add() of a row of 2", x.add(true, 2, 1), LoopMemo.LIMIT_REACHED);
        Check.type(x, "2:1");
        c.due("the pad has no fault", x.fault(0), LoopMemo.NOT_FOUND);
        c.due("fill() of it", x.fill(true), LoopMemo.LIMIT_REACHED);
        Check.type(x, "1:2,".repeat(14) + "1:22");
        c.due("a full pad has no fault", x.fault(0), LoopMemo.NOT_FOUND);
        c.due("append() to it", x.append('1'), LoopMemo.LIMIT_REACHED);
    }

    private static void noSuchRowOrKey(Check c) {
        LoopMemo x = used();
        int[] rows = {-1, 5, 20, Integer.MIN_VALUE, Integer.MAX_VALUE};
        for (int row : rows) {
            c.due("drop(true, " + row + ")", x.drop(true, row), LoopMemo.INVALID_ARGUMENT);
            c.due("drop(false, " + row + ")", x.drop(false, row), LoopMemo.INVALID_ARGUMENT);
            c.due("change(" + row + ", 1, 1)", x.change(row, 1, 1), LoopMemo.INVALID_ARGUMENT);
            c.due("row(true, " + row + ", 0)", x.row(true, row, 0), LoopMemo.INVALID_ARGUMENT);
            c.due("row(false, " + row + ", 0)", x.row(false, row, 0), LoopMemo.INVALID_ARGUMENT);
        }
        int[] keys = {-1, 10, Integer.MIN_VALUE, Integer.MAX_VALUE};
        for (int key : keys) {
            c.due("add(true, " + key + ", 1)", x.add(true, key, 1), LoopMemo.INVALID_ARGUMENT);
            c.due("change(0, " + key + ", 1)", x.change(0, key, 1), LoopMemo.INVALID_ARGUMENT);
            c.due("answer(" + key + ", 3)", x.answer(key, 3), LoopMemo.INVALID_ARGUMENT);
            c.due("remembered(" + key + ", 0)", x.remembered(key, 0), LoopMemo.INVALID_ARGUMENT);
        }
        Check.type(x, "-5");
        x.carryOut();
        c.due("why() of a deed with no such row", x.why(0), LoopMemo.INVALID_ARGUMENT);
    }

    /** What an object tells; with the snapshot restored, if back is -1; or with so many changes undone. */
    private static String toldBack(LoopMemo x, int back) {
        if (back < 0) {
            x.restore();
        }
        for (int i = 0; i < back; i++) {
            x.undo();
        }
        return toldWithTheRest(x);
    }

    /** Each look is made on new objects, since one answers 512 calls. */
    private static void dueNothingChanged(Check c, String name, Supplier<LoopMemo> maker,
            ToIntFunction<LoopMemo> call) {
        for (int back = -1; back <= 4; back++) {
            LoopMemo x = maker.get();
            call.applyAsInt(x);
            String at = back < 0 ? "the snapshot behind " : "all, " + back + " undone, behind ";
            c.dueText(at + name, toldBack(x, back), toldBack(maker.get(), back));
        }
    }

    private static void dueRefused(Check c, String name, Supplier<LoopMemo> maker, ToIntFunction<LoopMemo> call) {
        c.due(name + " returns an error", call.applyAsInt(maker.get()) < 0 ? 1 : 0, 1);
        dueNothingChanged(c, name, maker, call);
    }

    private static LoopMemo crowded() {
        LoopMemo x = new LoopMemo();
        for (int i = 0; i < 20; i++) {
            x.add(true, i % 3, i);
            x.add(false, i % 3, i);
        }
        x.step(20);
        Check.type(x, "1:2,".repeat(14) + "1:22");
        return x;
    }

    private static void refusedCallsChangeNothing(Check c) {
        for (Map.Entry<String, ToIntFunction<LoopMemo>> call : refusedOf().entrySet()) {
            dueRefused(c, call.getKey(), ChangeEdges::used, call.getValue());
        }
        dueRefused(c, "add, full", ChangeEdges::crowded, x -> x.add(true, 1, 1));
        dueRefused(c, "add, full outer", ChangeEdges::crowded, x -> x.add(false, 1, 1));
        dueRefused(c, "fill, full", ChangeEdges::crowded, x -> x.fill(true));
        dueRefused(c, "fill, full outer", ChangeEdges::crowded, x -> x.fill(false));
        dueRefused(c, "append, full", ChangeEdges::crowded, x -> x.append('1'));
        dueRefused(c, "step, done", ChangeEdges::crowded, x -> x.step(1));
        dueRefused(c, "restore, none", ChangeEdges::crowded, x -> x.restore());
        dueRefused(c, "undo, none", LoopMemo::new, x -> x.undo());
    }

    private static void invalidArgument(Check c) {
        c.due("INVALID_ARGUMENT", LoopMemo.INVALID_ARGUMENT, -1);
        c.due("an argument out of its range", new LoopMemo().count(20), -1);
        c.due("no such row", new LoopMemo().drop(true, 0), -1);
    }

    private static void notPossible(Check c) {
        LoopMemo x = new LoopMemo();
        c.due("NOT_POSSIBLE", LoopMemo.NOT_POSSIBLE, -2);
        c.due("step()", x.step(1), -2);
        c.due("fill()", x.fill(true), -2);
        c.due("carryOut()", x.carryOut(), -2);
        c.due("undo()", x.undo(), -2);
        c.due("restore()", x.restore(), -2);
    }

    private static void limitReached(Check c) {
        LoopMemo x = crowded();
        c.due("LIMIT_REACHED", LoopMemo.LIMIT_REACHED, -3);
        c.due("add()", x.add(true, 1, 1), -3);
        c.due("append()", x.append('1'), -3);
        c.due("fill()", x.fill(true), -3);
    }

    private static void notFound(Check c) {
        LoopMemo x = new LoopMemo();
        c.due("NOT_FOUND", LoopMemo.NOT_FOUND, -4);
        c.due("answer()", x.answer(1, 3), -4);
        c.due("remembered()", x.remembered(1, 0), -4);
        c.due("why()", x.why(0), -4);
        x.append('r');
        c.due("fault()", x.fault(1), -4);
    }

    private static void numbersOfSettings(Check c) {
        int[] numbers = {LoopMemo.BOUND, LoopMemo.RULE, LoopMemo.KEEPING, LoopMemo.LOW, LoopMemo.HIGH};
        int[] highest = {60, 2, 2, 99, 99};
        for (int i = 0; i < 5; i++) {
            c.due("the number of setting " + i, numbers[i], i);
            LoopMemo x = new LoopMemo();
            c.due("its highest value", x.set(numbers[i], highest[i]), 0);
            c.due("is the one of setting " + i, x.count(13 + i), highest[i]);
            c.due("1 more", x.set(numbers[i], highest[i] + 1), LoopMemo.INVALID_ARGUMENT);
        }
        LoopMemo x = new LoopMemo();
        Check.addRows(x, true, "1:10,1:20");
        x.set(LoopMemo.LOW, 11);
        c.due("LOW bounds from below", x.answer(1, 3), 1);
        x.set(LoopMemo.LOW, 0);
        x.set(LoopMemo.HIGH, 19);
        c.due("HIGH bounds from above", x.answer(1, 2), 10);
    }

    /** The calls that follow the comment in the program, up to the next such comment, are these. */
    private static void dueAhead(Check c, String comment, String calls) {
        try {
            String source = Files.readString(SOURCE);
            int start = source.indexOf("// " + comment + "\n");
            int end = source.indexOf("// ----", start + 1);
            int last = source.indexOf("    private", start + 1);
            StringBuilder found = new StringBuilder();
            Matcher call = Pattern.compile("public (int|double) (\\w+)\\(").matcher(source);
            call.region(Math.max(0, start), end < 0 ? last : Math.min(end, last));
            while (call.find()) {
                found.append(found.length() == 0 ? "" : " ").append(call.group(2));
            }
            c.dueText("the calls behind " + comment, start < 0 ? "" : found.toString(), calls);
        } catch (IOException e) {
            throw new UncheckedIOException(e);
        }
    }

    private static void looks(Check c, String calls) {
        dueAhead(c, "---- looks; nothing is changed", calls);
        dueNothingChanged(c, "row", ChangeEdges::used, x -> x.row(true, 0, 2) + x.row(false, 0, 2));
        dueNothingChanged(c, "answer", ChangeEdges::used, x -> x.answer(1, 2) + x.answer(9, 3));
        dueNothingChanged(c, "remembered", ChangeEdges::used, x -> x.remembered(1, 4) + x.remembered(2, 5));
        dueNothingChanged(c, "count", ChangeEdges::used, x -> x.count(3) + x.count(12));
        dueNothingChanged(c, "total", ChangeEdges::used, x -> x.total(0) + x.total(1));
        dueNothingChanged(c, "rate", ChangeEdges::used, x -> (int) x.rate());
    }

    private static void whatWouldBe(Check c, String calls) {
        dueAhead(c, "---- what would be; nothing is changed", calls);
        dueNothingChanged(c, "ifBound", ChangeEdges::used, x -> x.ifBound(0, 0) + x.ifBound(60, 3));
        dueNothingChanged(c, "ifOrdered", ChangeEdges::used, x -> x.ifOrdered(0) + x.ifOrdered(1) + x.ifOrdered(2));
        dueNothingChanged(c, "leastBound", ChangeEdges::used, x -> x.leastBound());
    }

    private static void countOfANewObject(Check c) {
        LoopMemo x = new LoopMemo();
        for (int what = 0; what <= 19; what++) {
            c.due("count(" + what + ")", x.count(what), what == 13 ? 12 : what == 17 ? 99 : 0);
        }
    }

    private static void countsRows(Check c) {
        LoopMemo x = new LoopMemo();
        for (int i = 1; i <= 20; i++) {
            x.add(false, 1, 1);
            c.due("outer rows", x.count(0), i);
            c.due("inner rows", x.count(1), i - 1);
            x.add(true, 1, 1);
            c.due("inner rows", x.count(1), i);
        }
        x.add(true, 1, 1);
        c.due("inner rows of a full table", x.count(1), 20);
        x.drop(true, 0);
        c.due("one went", x.count(1), 19);
    }

    private static void countsAnswers(Check c) {
        LoopMemo x = new LoopMemo();
        x.set(LoopMemo.BOUND, 60);
        for (int i = 0; i < 20; i++) {
            x.add(true, i % 10, i);
            x.add(false, i % 10, i);
        }
        for (int i = 1; i <= 10; i++) {
            x.step(1);
            c.due("remembered answers", x.count(2), i);
            c.due("their weights", x.count(3), 4 * i);
        }
        x.step(1);
        c.due("remembered answers behind a hit", x.count(2), 10);
        c.due("the greatest weight of all", x.count(3), 40);
        x.forget();
        c.due("none", x.count(2) + x.count(3), 0);
        LoopMemo y = new LoopMemo();
        Check.addRows(y, true, "2:1");
        Check.addRows(y, false, "1:1,2:1,3:1");
        y.step(3);
        c.due("remembered answers, two of them without rows", y.count(2), 3);
        c.due("their weights", y.count(3), 7);
    }

    private static void countsTheLoop(Check c) {
        LoopMemo x = new LoopMemo();
        Check.addRows(x, true, "1:99");
        Check.addRows(x, false, "1:99,2:99,1:1");
        int[] totals = {0, 9801, 9801, 9900};
        for (int place = 0; place <= 3; place++) {
            c.due("the place", x.count(4), place);
            c.due("the total", x.count(5), totals[place]);
            x.step(1);
        }
        x.again();
        c.due("both, begun again", x.count(4) + x.count(5), 0);
    }

    private static void countsLooksSoFar(Check c) {
        LoopMemo x = new LoopMemo();
        Check.addRows(x, true, "1:1");
        Check.addRows(x, false, "1:1,1:1,2:1");
        int cost = 0;
        for (int round = 1; round <= 5; round++) {
            x.step(20);
            cost += round == 1 ? 3 + 1 + 3 : 3;
            c.due("hits, round " + round, x.count(6), 3 * round - 2);
            c.due("misses, round " + round, x.count(7), 2);
            c.due("cost, round " + round, x.count(8), cost);
            x.again();
        }
        x.forget();
        c.due("hits so far stay", x.count(6), 13);
        x.step(1);
        c.due("misses so far", x.count(7), 3);
        c.due("cost so far", x.count(8), cost + 3);
        x.ifBound(0, 0);
        c.due("what would be is not counted", x.count(7), 3);
    }

    private static void countsRoom(Check c) {
        LoopMemo x = new LoopMemo();
        x.set(LoopMemo.BOUND, 4);
        Check.addRows(x, false, "1:1,2:1,3:1,4:1");
        x.step(2);
        c.due("room for two", x.count(9), 0);
        x.step(2);
        c.due("two made room", x.count(9), 2);
        x.set(LoopMemo.BOUND, 3);
        c.due("one by a lesser BOUND", x.count(9), 3);
        x.set(LoopMemo.BOUND, 2);
        c.due("none by a lesser BOUND", x.count(9), 3);
        x.set(LoopMemo.BOUND, 0);
        c.due("one by a BOUND of 0", x.count(9), 4);
        c.due("none otherwise", x.count(10), 0);
        x.ifBound(2, 3);
        c.due("what would be is not counted", x.count(9), 4);
    }

    private static void countsOthers(Check c) {
        LoopMemo x = new LoopMemo();
        Check.addRows(x, false, "1:1,2:1,3:1");
        x.step(3);
        x.forget();
        c.due("three forgotten", x.count(10), 3);
        x.forget();
        c.due("none forgotten", x.count(10), 3);
        x.again();
        x.step(3);
        x.add(true, 1, 1);
        c.due("one for a row", x.count(10), 4);
        x.add(true, 1, 1);
        c.due("none for a row", x.count(10), 4);
        x.set(LoopMemo.KEEPING, 1);
        c.due("two by a setting", x.count(10), 6);
        x.again();
        x.step(3);
        x.change(0, 9, 9);
        c.due("all for a row", x.count(10), 9);
        c.due("none to make room", x.count(9), 0);
    }

    private static void countsTooHeavy(Check c) {
        LoopMemo x = new LoopMemo();
        x.set(LoopMemo.BOUND, 2);
        Check.addRows(x, true, "1:1");
        Check.addRows(x, false, "1:1,2:1,1:1");
        x.step(1);
        c.due("one", x.count(11), 1);
        x.step(1);
        c.due("one that fits", x.count(11), 1);
        x.step(1);
        c.due("the same one, once more", x.count(11), 2);
        x.set(LoopMemo.BOUND, 1);
        c.due("one that goes by a lesser BOUND is not too heavy", x.count(11), 2);
        x.again();
        x.step(20);
        c.due("all three", x.count(11), 5);
        c.due("too heavy ones are misses, too", x.count(7), 6);
    }

    private static void countsMended(Check c) {
        LoopMemo x = new LoopMemo();
        x.set(LoopMemo.KEEPING, 2);
        x.set(LoopMemo.HIGH, 50);
        Check.addRows(x, false, "1:1,2:1");
        x.step(2);
        x.add(true, 1, 51);
        c.due("the same rows: a row above HIGH comes", x.count(12), 1);
        x.change(0, 1, 52);
        c.due("the same rows: it changes", x.count(12), 2);
        x.change(0, 1, 52);
        c.due("the same rows: it stays as it is", x.count(12), 3);
        x.change(0, 2, 53);
        c.due("the same rows of two", x.count(12), 5);
        x.drop(true, 0);
        c.due("the same rows: it goes", x.count(12), 6);
        x.add(true, 3, 1);
        c.due("none is remembered", x.count(12), 6);
        x.change(0, 1, 1);
        c.due("another row of one", x.count(12), 7);
        c.due("none is thrown out", x.count(9) + x.count(10), 0);
    }

    private static void countsSettings(Check c) {
        LoopMemo x = new LoopMemo();
        int[] values = {59, 1, 2, 97, 3};
        for (int what = 0; what < 5; what++) {
            x.set(what, values[what]);
        }
        for (int what = 0; what < 5; what++) {
            c.due("setting " + what, x.count(13 + what), values[what]);
        }
    }

    private static void countsThePad(Check c) {
        LoopMemo x = new LoopMemo();
        for (int length = 0; length <= 60; length++) {
            c.due("the length", x.count(18), length);
            x.append('r');
        }
        c.due("the length of a full pad", x.count(18), 60);
        x.undo();
        c.due("undo() leaves it", x.count(18), 60);
        x.clear();
        c.due("the length of an emptied pad", x.count(18), 0);
    }

    private static void countsStates(Check c) {
        LoopMemo x = new LoopMemo();
        for (int i = 1; i <= 6; i++) {
            x.again();
            c.due("states behind " + i, x.count(19), i < 4 ? i : 4);
        }
        for (int left = 3; left >= 0; left--) {
            x.undo();
            c.due("states behind undo()", x.count(19), left);
        }
        x.undo();
        c.due("states behind undo() of none", x.count(19), 0);
    }

    private static void countTakes0To19(Check c) {
        LoopMemo x = used();
        c.due("count(-1)", x.count(-1), LoopMemo.INVALID_ARGUMENT);
        c.due("count(20)", x.count(20), LoopMemo.INVALID_ARGUMENT);
        for (int what : FAR) {
            c.due("count(" + what + ")", x.count(what), LoopMemo.INVALID_ARGUMENT);
        }
        c.due("count(0)", x.count(0), 4);
        c.due("count(19)", x.count(19), 4);
    }

    private static void undoesTheLatest(Check c) {
        LoopMemo x = new LoopMemo();
        x.add(true, 1, 10);
        x.set(LoopMemo.LOW, 5);
        x.add(false, 2, 20);
        x.undo();
        c.due("the outer row is undone", x.count(0), 0);
        c.due("LOW stays", x.count(16), 5);
        x.undo();
        c.due("LOW is undone", x.count(16), 0);
        c.due("the inner row stays", x.count(1), 1);
        x.add(true, 3, 30);
        x.undo();
        c.due("a change behind undo() is the latest", x.count(1), 1);
        x.undo();
        c.due("the inner row is undone", x.count(1), 0);
    }

    private static void undoLeavesThree(Check c) {
        LoopMemo x = used();
        String pad = x.count(18) + " " + x.fault(0) + " " + x.fault(1);
        x.undo();
        c.dueText("the pad behind undo()", x.count(18) + " " + x.fault(0) + " " + x.fault(1), pad);
        c.due("why(0) behind undo()", x.why(0), LoopMemo.INVALID_ARGUMENT);
        c.due("why(1) behind undo()", x.why(1), 1);
        c.due("why(2) behind undo()", x.why(2), 5);
        x.undo();
        x.undo();
        c.due("the snapshot was taken behind what is undone", x.count(4), 0);
        c.due("it is there still", x.restore(), 2);
        c.due("it holds the place", x.count(4), 3);
        LoopMemo y = used();
        String ahead = told(y);
        y.save();
        y.again();
        y.undo();
        c.dueText("all else behind undo()", told(y), ahead);
    }

    private static void undoReturnsStates(Check c) {
        for (int changes = 1; changes <= 6; changes++) {
            LoopMemo x = new LoopMemo();
            for (int i = 0; i < changes; i++) {
                x.again();
            }
            for (int left = Math.min(4, changes) - 1; left >= 0; left--) {
                c.due(changes + " changes: undo()", x.undo(), left);
                c.due(changes + " changes: states", x.count(19), left);
            }
        }
    }

    private static void undoWithoutStates(Check c) {
        LoopMemo x = new LoopMemo();
        c.due("of a new object", x.undo(), LoopMemo.NOT_POSSIBLE);
        x.add(true, 10, 0);
        c.due("behind a refused call", x.undo(), LoopMemo.NOT_POSSIBLE);
        x.add(true, 1, 1);
        c.due("behind a change", x.undo(), 0);
        c.due("once more", x.undo(), LoopMemo.NOT_POSSIBLE);
        c.due("rows", x.count(1), 0);
        x.add(true, 1, 1);
        c.due("behind another change", x.undo(), 0);
        x.save();
        c.due("behind a snapshot", x.undo(), LoopMemo.NOT_POSSIBLE);
    }

    private static void savesAllButThree(Check c) {
        for (Map.Entry<String, ToIntFunction<LoopMemo>> change : changesOf().entrySet()) {
            LoopMemo x = used();
            x.save();
            String saved = told(x);
            change.getValue().applyAsInt(x);
            Check.type(x, "r;r;-19");
            x.carryOut();
            Check.type(x, "1:55");
            x.restore();
            c.dueText("all behind restore() of " + change.getKey(), told(x), saved);
            c.due("the pad is the one of now", x.count(18), 4);
            c.due("the pad is the one of now", x.fault(0), LoopMemo.NOT_FOUND);
            c.due("why() is the one of now", x.why(1), 2);
            c.due("the history is the one of now", x.count(19), 4);
            x.undo();
            c.due("its latest state is the one ahead of restore()", x.count(4), 0);
        }
        LoopMemo x = used();
        x.undo();
        x.save();
        c.due("save() is no change", x.count(19), 3);
    }

    private static void savesInPlace(Check c) {
        LoopMemo x = new LoopMemo();
        x.save();
        x.add(true, 1, 10);
        x.save();
        x.add(true, 2, 20);
        x.add(true, 3, 30);
        x.restore();
        c.due("the rows of the later snapshot", x.count(1), 1);
        x.drop(true, 0);
        x.save();
        x.add(true, 4, 40);
        x.restore();
        c.due("the rows of the latest snapshot", x.count(1), 0);
    }

    private static void saveReturnsRemembered(Check c) {
        LoopMemo x = new LoopMemo();
        c.due("none", x.save(), 0);
        x.set(LoopMemo.BOUND, 20);
        for (int key = 0; key <= 9; key++) {
            x.add(false, key, 1);
            x.step(1);
            c.due("as many as are remembered", x.save(), key + 1);
        }
        x.set(LoopMemo.BOUND, 19);
        c.due("one less", x.save(), 9);
        x.forget();
        c.due("none again", x.save(), 0);
    }

    private static void snapshotStays(Check c) {
        LoopMemo x = used();
        x.save();
        String saved = told(x);
        for (Map.Entry<String, ToIntFunction<LoopMemo>> change : changesOf().entrySet()) {
            LoopMemo y = used();
            y.save();
            change.getValue().applyAsInt(y);
            y.restore();
            c.dueText("restored behind " + change.getKey(), told(y), saved);
            change.getValue().applyAsInt(y);
            y.restore();
            c.dueText("restored twice behind " + change.getKey(), told(y), saved);
        }
        x.undo();
        x.undo();
        x.restore();
        c.dueText("restored behind undo()", told(x), saved);
        c.due("restore() is a change", x.undo(), 2);
        c.due("it is undone", told(x).equals(saved) ? 1 : 0, 0);
        x.restore();
        c.dueText("restored behind undo() of restore()", told(x), saved);
    }

    private static void restoreReturnsRemembered(Check c) {
        LoopMemo x = new LoopMemo();
        x.save();
        Check.addRows(x, false, "1:1,2:1,3:1");
        x.step(3);
        c.due("none", x.restore(), 0);
        c.due("none are remembered", x.count(2), 0);
        x.undo();
        x.save();
        x.forget();
        c.due("three", x.restore(), 3);
        c.due("three are remembered", x.count(2), 3);
    }

    private static void restoreWithoutASnapshot(Check c) {
        LoopMemo x = new LoopMemo();
        c.due("of a new object", x.restore(), LoopMemo.NOT_POSSIBLE);
        x.add(true, 1, 1);
        c.due("behind a change", x.restore(), LoopMemo.NOT_POSSIBLE);
        c.due("rows", x.count(1), 1);
        c.due("it is no change", x.count(19), 1);
        x.save();
        c.due("behind save()", x.restore(), 0);
        x.undo();
        x.undo();
        c.due("undo() does not undo save()", x.restore(), 0);
        c.due("rows", x.count(1), 1);
    }
}
