/** Promises 15 to 20: looks, which change nothing. */
public final class LooksTest {
    private static final Check check = new Check();

    public static void main(String[] args) {
        rowTells();
        answerTells();
        rememberedTells();
        countTells();
        totalTells();
        totalWithoutRowsThatWent();
        leastKeyAndGreatestKey();
        rateTells();
        looksChangeNothing();
        check.end();
    }

    /** Band 10 to 50; inner rows 1:9, 1:10, 2:50, 1:51, 1:20; outer rows 1:2, 3:5, 1:1, 2:7; three steps are made. */
    private static LoopMemo filled() {
        LoopMemo x = new LoopMemo();
        x.set(LoopMemo.LOW, 10);
        x.set(LoopMemo.HIGH, 50);
        Check.addRows(x, true, "1:9,1:10,2:50,1:51,1:20");
        Check.addRows(x, false, "1:2,3:5,1:1,2:7");
        x.step(3);
        return x;
    }

    private static void dueNumbers(String call, int[] got, int... want) {
        for (int i = 0; i < want.length; i++) {
            check.due(call + ", number " + i, got[i], want[i]);
        }
    }

    private static void rowTells() {
        LoopMemo x = filled();
        int[] marks = new int[5];
        for (int row = 0; row < 5; row++) {
            marks[row] = x.row(true, row, 2);
        }
        dueNumbers("inner rows in a remembered answer", marks, 0, 1, 0, 0, 1);
        for (int row = 0; row < 4; row++) {
            marks[row] = x.row(false, row, 2);
        }
        dueNumbers("outer rows done", marks, 1, 1, 1, 0);
        check.due("row(true, 3, 0)", x.row(true, 3, 0), 1);
        check.due("row(true, 3, 1)", x.row(true, 3, 1), 51);
        check.due("row(false, 3, 0)", x.row(false, 3, 0), 2);
        check.due("row(false, 3, 1)", x.row(false, 3, 1), 7);
        int[][] wrong = {{-1, 0}, {5, 0}, {20, 0}, {0, -1}, {0, 3}, {Integer.MAX_VALUE, 0}, {0, Integer.MIN_VALUE}};
        for (int[] call : wrong) {
            String end = call[0] + ", " + call[1] + ")";
            check.due("row(true, " + end, x.row(true, call[0], call[1]), LoopMemo.INVALID_ARGUMENT);
            check.due("row(false, " + end, x.row(false, call[0], call[1]), LoopMemo.INVALID_ARGUMENT);
        }
        check.due("row(false, 4, 0)", x.row(false, 4, 0), LoopMemo.INVALID_ARGUMENT);
    }

    private static int[] answers(LoopMemo x, int key) {
        return new int[] {x.answer(key, 0), x.answer(key, 1), x.answer(key, 2), x.answer(key, 3)};
    }

    private static void answerTells() {
        LoopMemo x = filled();
        dueNumbers("answer for 1", answers(x, 1), 2, 4, 30, 1);
        dueNumbers("answer for 2", answers(x, 2), 1, 3, 50, 2);
        dueNumbers("answer for 3", answers(x, 3), 0, 2, 0, LoopMemo.NOT_FOUND);
        x.drop(true, 0);
        dueNumbers("answer for 1, renumbered", answers(x, 1), 2, 4, 30, 0);
        dueNumbers("answer for 2, renumbered", answers(x, 2), 1, 3, 50, 1);
        int[][] wrong = {{-1, 0}, {10, 0}, {0, -1}, {0, 4}, {Integer.MIN_VALUE, 0}, {0, Integer.MAX_VALUE}, {10, 3}};
        for (int[] call : wrong) {
            check.due("answer(" + call[0] + ", " + call[1] + ")", x.answer(call[0], call[1]), -1);
        }
    }

    private static int[] known(LoopMemo x, int key) {
        int[] numbers = new int[6];
        for (int what = 0; what < 6; what++) {
            numbers[what] = x.remembered(key, what);
        }
        return numbers;
    }

    private static void rememberedTells() {
        LoopMemo x = filled();
        dueNumbers("remembered for 1", known(x, 1), 2, 4, 30, 1, 2, 1);
        dueNumbers("remembered for 3", known(x, 3), 0, 2, 0, LoopMemo.NOT_FOUND, 1, 0);
        dueNumbers("remembered for 2", known(x, 2), -4, -4, -4, -4, -4, -4);
        x.drop(true, 2);
        x.drop(true, 2);
        dueNumbers("row 4 of key 1 went", known(x, 1), -4, -4, -4, -4, -4, -4);
        dueNumbers("3 stays", known(x, 3), 0, 2, 0, LoopMemo.NOT_FOUND, 1, 0);
        int[][] wrong = {{-1, 0}, {10, 0}, {2, -1}, {2, 6}, {1, 6}, {Integer.MAX_VALUE, 0}, {1, Integer.MIN_VALUE}};
        for (int[] call : wrong) {
            check.due("remembered(" + call[0] + ", " + call[1] + ")", x.remembered(call[0], call[1]), -1);
        }
    }

    private static void countTells() {
        LoopMemo x = filled();
        Check.type(x, "abc");
        int[] want = {4, 5, 2, 6, 3, 90, 1, 2, 15, 0, 0, 0, 0, 12, 0, 0, 10, 50, 3, 4};
        for (int what = 0; what < want.length; what++) {
            check.due("count(" + what + ")", x.count(what), want[what]);
        }
        int[] wrong = {-1, 20, 21, Integer.MIN_VALUE, Integer.MAX_VALUE};
        for (int what : wrong) {
            check.due("count(" + what + ")", x.count(what), LoopMemo.INVALID_ARGUMENT);
        }
    }

    private static void totalTells() {
        LoopMemo x = filled();
        check.due("total(0)", x.total(0), 60 + 0 + 30 + 350);
        check.due("total(1)", x.total(1), 440);
        x.step(1);
        check.due("the total of the loop", x.count(5), 440);
        x.set(LoopMemo.HIGH, 99);
        check.due("total(0), another band", x.total(0), 60 + 102 + 30 + 51 + 350);
        check.due("total(1), another band", x.total(1), 593);
        check.due("the total of the loop stays", x.count(5), 440);
        check.due("total(-1)", x.total(-1), LoopMemo.INVALID_ARGUMENT);
        check.due("total(2)", x.total(2), LoopMemo.INVALID_ARGUMENT);
        LoopMemo empty = new LoopMemo();
        check.due("total(0) without rows", empty.total(0), 0);
        check.due("total(1) without rows", empty.total(1), 0);
    }

    private static void totalWithoutRowsThatWent() {
        LoopMemo x = new LoopMemo();
        Check.addRows(x, true, "1:10,1:5,1:7");
        Check.addRows(x, false, "1:2,1:3");
        check.due("total(0), the first inner row counts", x.total(0), 110);
        check.due("total(1), the first inner row counts", x.total(1), 110);
        x.drop(true, 2);
        x.drop(false, 1);
        check.due("total(0) behind drops", x.total(0), 30);
        check.due("total(1) behind drops", x.total(1), 30);
    }

    private static void leastKeyAndGreatestKey() {
        int[] keys = {0, 9};
        for (int key : keys) {
            LoopMemo x = new LoopMemo();
            x.add(true, 5, 1);
            x.add(true, key, 10);
            x.add(true, key, 20);
            x.add(false, key, 3);
            x.add(false, key, 4);
            x.step(2);
            dueNumbers("answer for " + key, answers(x, key), 2, 4, 30, 1);
            dueNumbers("remembered for " + key, known(x, key), 2, 4, 30, 1, 2, 0);
            check.due("the total with key " + key, x.count(5), 210);
            check.due("remembered with key " + key, x.count(2), 1);
            check.due("weights with key " + key, x.count(3), 4);
            check.due("the mark of key " + key, x.row(true, 1, 2), 1);
            x.add(false, 5, 1);
            x.step(1);
            check.due("the place of 5 behind key " + key, x.remembered(5, 5), 1);
            check.due("forget() with key " + key, x.forget(), 2);
            check.due("none is left with key " + key, x.remembered(key, 4), LoopMemo.NOT_FOUND);
        }
    }

    private static void rateTells() {
        LoopMemo x = new LoopMemo();
        check.dueDouble("rate() without looks", x.rate(), 0.0);
        Check.addRows(x, false, "1:2,1:2,1:2");
        x.step(1);
        check.dueDouble("rate() without hits", x.rate(), 0.0);
        x.step(1);
        check.dueDouble("rate() of 1 in 2", x.rate(), 0.5);
        x.step(1);
        check.dueDouble("rate() of 2 in 3", x.rate(), 2.0 / 3.0);
        x.again();
        x.step(3);
        check.dueDouble("rate() of 5 in 6", x.rate(), 5.0 / 6.0);
    }

    private static void looksChangeNothing() {
        LoopMemo x = filled();
        for (int what = 0; what < 20; what++) {
            int before = x.count(what);
            x.row(true, 0, 2);
            x.row(false, 0, 2);
            x.answer(1, 2);
            x.answer(5, 2);
            x.remembered(1, 5);
            x.total(0);
            x.total(1);
            x.rate();
            x.fault(0);
            x.fault(1);
            x.why(0);
            check.due("count(" + what + ") behind looks", x.count(what), before);
        }
        check.due("the looks of 1 stay", x.remembered(1, 4), 2);
    }
}
