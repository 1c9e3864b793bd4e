/** Promises 9 to 14: the pad, its faults, rows and deeds that are read from it, and why the deeds stopped. */
public final class TextsTest {
    private static final Check check = new Check();

    public static void main(String[] args) {
        appendAndClear();
        faultsOfRows();
        faultsOfDeeds();
        faultsOfLongPads();
        faultRefuses();
        clearedTextsAreGone();
        fillAddsRows();
        fillRefuses();
        fillKeepsAnswersTrue();
        carryOutObeys();
        carryOutStops();
        carryOutIsOneChange();
        carryOutRefuses();
        whyIsNotUndone();
        check.end();
    }

    private static void appendAndClear() {
        LoopMemo x = new LoopMemo();
        int[] wrong = {32, 127, 0, -1, Integer.MIN_VALUE, Integer.MAX_VALUE};
        for (int code : wrong) {
            check.due("append(" + code + ")", x.append(code), LoopMemo.INVALID_ARGUMENT);
        }
        check.due("clear() without characters", x.clear(), 0);
        for (int i = 1; i <= 60; i++) {
            check.due("append, number " + i, x.append(i % 2 == 0 ? 33 : 126), i);
        }
        check.due("append, number 61", x.append(50), LoopMemo.LIMIT_REACHED);
        check.due("append of a wrong one ahead of the limit", x.append(127), LoopMemo.INVALID_ARGUMENT);
        check.due("length", x.count(18), 60);
        check.due("the pad is no change", x.count(19), 0);
        check.due("clear()", x.clear(), 60);
        check.due("length", x.count(18), 0);
        check.due("append again", x.append(49), 1);
    }

    private static void dueFault(int way, String text, int want) {
        LoopMemo x = new LoopMemo();
        Check.type(x, text);
        check.due("fault(" + way + ") of " + text, x.fault(way), want);
        check.due("the length of " + text, x.count(18), text.length());
    }

    private static void faultsOfRows() {
        String[] whole = {"0:0", "9:99", "1:5,2:6", "1:0,1:0,1:0", "3:10,4:90,5:9"};
        for (String text : whole) {
            dueFault(0, text, LoopMemo.NOT_FOUND);
        }
        String[] unfinished = {"", "1", "1:", "1:5,", "1:50,", "1:0,2", "1:0,2:"};
        for (String text : unfinished) {
            dueFault(0, text, text.length());
        }
        Object[][] faulty = {{"x", 0}, {":", 0}, {",", 0}, {"/:1", 0}, {"11:1", 1}, {"10:1", 1}, {"1;1", 1}, {"1,1", 1},
            {"1:x", 2}, {"1:,", 2}, {"1::", 2}, {"1:00", 3}, {"1:05", 3}, {"1:100", 4}, {"1:999", 4}, {"1:5;2:6", 3},
            {"1:5,,", 4}, {"1:5,x", 4}, {"1:5,2;6", 5}, {"1:5,2:6:", 7}, {"1:-5", 2}, {"1:5,2:07", 7}, {"s1", 0},
            {"1:5,s1", 4}, {"1:5~", 3}, {"+1:5", 0}, {"1:5x2:6", 3}, {"1:55,2:555,x", 9}};
        for (Object[] row : faulty) {
            dueFault(0, (String) row[0], (Integer) row[1]);
        }
    }

    private static void faultsOfDeeds() {
        String[] whole = {"r", "s1", "s9", "s10", "s19", "s20", "+0:0", "+9:99", "-0", "-9", "-10", "-19", "r;r",
            "s1;-1;+1:3;s1;r;-3;s9"};
        for (String text : whole) {
            dueFault(1, text, LoopMemo.NOT_FOUND);
        }
        String[] unfinished = {"", "s", "+", "+1", "+1:", "-", "r;", "s1;", "s1;s", "-1;-", "r;+4:"};
        for (String text : unfinished) {
            dueFault(1, text, text.length());
        }
        Object[][] faulty = {{"1:5", 0}, {"S1", 0}, {";", 0}, {"s0", 1}, {"s01", 1}, {"sx", 1}, {"s21", 2}, {"s30", 2},
            {"s99", 2}, {"s100", 3}, {"s200", 3}, {"s1,", 2}, {"r1", 1}, {"rr", 1}, {"r,", 1}, {"-00", 2}, {"-01", 2},
            {"-20", 2}, {"-29", 2}, {"-190", 3}, {"--", 1}, {"+:", 1}, {"+11", 2}, {"+10:1", 2}, {"+1;", 2},
            {"+1:00", 4}, {"+1:100", 5}, {"r;;", 2}, {"r;x", 2}, {"s1;1", 3}, {"+1:3,+", 4}, {"s2;s21;s0", 5},
            {"-1;+x", 4}};
        for (Object[] row : faulty) {
            dueFault(1, (String) row[0], (Integer) row[1]);
        }
    }

    /** A full pad that wants more is not complete, though no more goes into it. */
    private static void faultsOfLongPads() {
        String rows = "1:2,".repeat(15);
        dueFault(0, rows, 60);
        dueFault(0, rows.substring(0, 59), LoopMemo.NOT_FOUND);
        dueFault(0, rows.substring(0, 59) + "3", LoopMemo.NOT_FOUND);
        dueFault(0, rows.substring(0, 59) + ":", 59);
        String deeds = "r;".repeat(30);
        dueFault(1, deeds, 60);
        dueFault(1, deeds.substring(0, 59), LoopMemo.NOT_FOUND);
        dueFault(1, deeds.substring(0, 59) + "r", 59);
    }

    private static void faultRefuses() {
        LoopMemo x = new LoopMemo();
        Check.type(x, "1:5");
        int[] wrong = {-1, 2, Integer.MIN_VALUE, Integer.MAX_VALUE};
        for (int way : wrong) {
            check.due("fault(" + way + ")", x.fault(way), LoopMemo.INVALID_ARGUMENT);
        }
    }

    private static void clearedTextsAreGone() {
        LoopMemo x = new LoopMemo();
        Check.type(x, "1:50,2:60");
        Check.type(x, "1:");
        check.due("fault(0) of a shorter text", x.fault(0), 2);
        Check.type(x, "1:5");
        check.due("fault(0) of a number that was longer", x.fault(0), LoopMemo.NOT_FOUND);
        check.due("fill(true)", x.fill(true), 1);
        check.due("its value", x.row(true, 0, 1), 5);
        Check.type(x, "");
        check.due("fault(0) of no text", x.fault(0), 0);
        check.due("fault(1) of no text", x.fault(1), 0);
        check.due("fill(true) of no text", x.fill(true), LoopMemo.NOT_POSSIBLE);
    }

    private static void fillAddsRows() {
        LoopMemo x = new LoopMemo();
        Check.addRows(x, true, "7:70");
        Check.type(x, "1:5,2:60,0:0");
        check.due("fill(true)", x.fill(true), 4);
        check.due("the pad is empty", x.count(18), 0);
        check.due("it is one change", x.count(19), 2);
        check.due("row 0", x.row(true, 0, 1), 70);
        check.due("row 1, key", x.row(true, 1, 0), 1);
        check.due("row 1, value", x.row(true, 1, 1), 5);
        check.due("row 2, value", x.row(true, 2, 1), 60);
        check.due("row 3, key", x.row(true, 3, 0), 0);
        Check.type(x, "9:99");
        check.due("fill(false)", x.fill(false), 1);
        check.due("outer row 0, key", x.row(false, 0, 0), 9);
        check.due("outer row 0, value", x.row(false, 0, 1), 99);
        check.due("undo()", x.undo(), 2);
        check.due("no outer row", x.count(0), 0);
        check.due("undo()", x.undo(), 1);
        check.due("all three rows are undone", x.count(1), 1);
    }

    private static void fillRefuses() {
        LoopMemo x = new LoopMemo();
        check.due("fill without a text", x.fill(true), LoopMemo.NOT_POSSIBLE);
        Check.type(x, "1:5,");
        check.due("fill with a fault", x.fill(true), LoopMemo.NOT_POSSIBLE);
        check.due("the pad stays", x.count(18), 4);
        Check.type(x, "s1;r");
        check.due("fill with deeds", x.fill(false), LoopMemo.NOT_POSSIBLE);
        for (int i = 0; i < 18; i++) {
            x.add(true, 1, 1);
        }
        Check.type(x, "1:5,2:6,3:7");
        check.due("fill of 18 with 3", x.fill(true), LoopMemo.LIMIT_REACHED);
        check.due("the pad stays", x.count(18), 11);
        check.due("no row came", x.count(1), 18);
        check.due("the other table has room", x.fill(false), 3);
        Check.type(x, "1:5,2:6");
        check.due("fill of 18 with 2", x.fill(true), 20);
        Check.type(x, "1:5");
        check.due("fill of 20 with 1", x.fill(true), LoopMemo.LIMIT_REACHED);
        Check.type(x, "1:5,1:5,");
        check.due("a fault ahead of the limit", x.fill(true), LoopMemo.NOT_POSSIBLE);
    }

    private static void fillKeepsAnswersTrue() {
        LoopMemo x = new LoopMemo();
        x.set(LoopMemo.KEEPING, 2);
        Check.addRows(x, false, "1:1,2:1,3:1");
        x.step(3);
        Check.type(x, "1:5,1:6,2:7,4:8");
        x.fill(true);
        check.due("mended, row by row", x.count(12), 3);
        check.due("the sum", x.remembered(1, 2), 11);
        x.set(LoopMemo.KEEPING, 0);
        x.again();
        x.step(3);
        Check.type(x, "1:5,1:6");
        x.fill(true);
        check.due("thrown out once", x.count(10), 4);
        check.due("two are left", x.count(2), 2);
        Check.type(x, "1:5");
        x.fill(false);
        check.due("outer rows leave them alone", x.count(2), 2);
    }

    private static void carryOutObeys() {
        LoopMemo x = new LoopMemo();
        Check.addRows(x, false, "1:2,2:3,1:4");
        Check.type(x, "+1:10;+2:5;s2;-0;r;s1;+1:99");
        check.due("carryOut()", x.carryOut(), 7);
        check.due("the pad is empty", x.count(18), 0);
        check.due("inner rows", x.count(1), 2);
        check.due("the last row's value", x.row(true, 1, 1), 99);
        check.due("the place", x.count(4), 1);
        check.due("the total", x.count(5), 0);
        check.due("misses", x.count(7), 3);
        check.due("cost", x.count(8), 11);
        check.due("all were carried out", x.why(0), LoopMemo.NOT_FOUND);
        Check.type(x, "s20;r;s20");
        check.due("more steps than rows", x.carryOut(), 3);
        check.due("the place", x.count(4), 3);
        check.due("the total", x.count(5), 6 * 99 + 15);
    }

    private static void dueStop(String text, int done, int error, int position) {
        LoopMemo x = new LoopMemo();
        Check.addRows(x, false, "1:2");
        for (int i = 0; i < 19; i++) {
            x.add(true, 1, 1);
        }
        Check.type(x, text);
        check.due("carryOut() of " + text, x.carryOut(), done);
        check.due("the pad behind " + text, x.count(18), 0);
        check.due("why(0) of " + text, x.why(0), error);
        check.due("why(1) of " + text, x.why(1), done);
        check.due("why(2) of " + text, x.why(2), position);
        check.due("why(-1) of " + text, x.why(-1), LoopMemo.INVALID_ARGUMENT);
        check.due("why(3) of " + text, x.why(3), LoopMemo.INVALID_ARGUMENT);
    }

    private static void carryOutStops() {
        dueStop("-19", 0, LoopMemo.INVALID_ARGUMENT, 0);
        dueStop("s1;s1;r", 1, LoopMemo.NOT_POSSIBLE, 3);
        dueStop("+2:10;+3:5;r", 1, LoopMemo.LIMIT_REACHED, 6);
        dueStop("-0;+2:10;r;+3:5;+4:5;+5:5", 4, LoopMemo.LIMIT_REACHED, 16);
        dueStop("r;s20;-10;-18;-1", 3, LoopMemo.INVALID_ARGUMENT, 10);
    }

    private static void carryOutIsOneChange() {
        LoopMemo x = new LoopMemo();
        Check.addRows(x, false, "1:2");
        Check.type(x, "+1:10;s1;-0;+2:2");
        x.carryOut();
        check.due("states", x.count(19), 2);
        check.due("undo()", x.undo(), 1);
        check.due("inner rows", x.count(1), 0);
        check.due("the place", x.count(4), 0);
        check.due("the pad stays empty", x.count(18), 0);
        Check.type(x, "-0");
        check.due("none is carried out", x.carryOut(), 0);
        check.due("that is a change too", x.count(19), 2);
    }

    private static void carryOutRefuses() {
        LoopMemo x = new LoopMemo();
        check.due("carryOut() without a text", x.carryOut(), LoopMemo.NOT_POSSIBLE);
        check.due("no such call", x.why(0), LoopMemo.NOT_FOUND);
        Check.type(x, "-0");
        x.carryOut();
        Check.type(x, "r;s0");
        check.due("carryOut() with a fault", x.carryOut(), LoopMemo.NOT_POSSIBLE);
        check.due("the pad stays", x.count(18), 4);
        check.due("the call before it is told about", x.why(0), LoopMemo.INVALID_ARGUMENT);
        Check.type(x, "1:5");
        check.due("carryOut() with rows", x.carryOut(), LoopMemo.NOT_POSSIBLE);
        check.due("states", x.count(19), 1);
        Check.type(x, "r");
        x.carryOut();
        check.due("the latest call carried all out", x.why(1), LoopMemo.NOT_FOUND);
    }

    private static void whyIsNotUndone() {
        LoopMemo x = new LoopMemo();
        x.save();
        Check.type(x, "r;s1");
        x.carryOut();
        x.undo();
        check.due("why(0) behind undo()", x.why(0), LoopMemo.NOT_POSSIBLE);
        x.restore();
        check.due("why(1) behind restore()", x.why(1), 1);
        check.due("why(2) behind restore()", x.why(2), 2);
        x.save();
        Check.type(x, "r");
        x.carryOut();
        x.restore();
        check.due("why(0) is not restored", x.why(0), LoopMemo.NOT_FOUND);
    }
}
