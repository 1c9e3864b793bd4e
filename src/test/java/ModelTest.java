/** Long runs of calls, drawn from a fixed row of numbers: LoopMemo and the plain model must answer alike. */
public final class ModelTest {
    private static final int RUNS = 400;
    private static final int CALLS = 512;
    private static final int[] ODD_NUMBERS = {-1, -2, 100, 61, 21, 20, 10, 5, 3, Integer.MIN_VALUE, Integer.MAX_VALUE};

    private final Check check = new Check();
    private long drawn;
    private int run;
    private int calls;
    private int keys;
    private int errors;
    private LoopMemo x;
    private PlainModel model;

    public static void main(String[] args) {
        ModelTest test = new ModelTest();
        for (int run = 1; run <= RUNS && test.check.isAllRight(); run++) {
            test.makeRun(run);
        }
        test.check.end();
    }

    private void makeRun(int number) {
        run = number;
        drawn = 7919L * number;
        calls = 0;
        errors = 0;
        keys = 2 + draw(9);
        x = new LoopMemo();
        model = new PlainModel();
        lookAtAll();
        for (int i = 0; calls < CALLS && check.isAllRight(); i++) {
            makeCall();
            if (i % 6 == 0) {
                lookAtAll();
            }
        }
        lookAtAll();
    }

    private int draw(int below) {
        drawn = drawn * 6364136223846793005L + 1442695040888963407L;
        return (int) ((drawn >>> 33) % below);
    }

    /** Mostly from 0 up to a number, at times one that may be out of range. */
    private int number(int below) {
        return draw(25) == 0 ? ODD_NUMBERS[draw(ODD_NUMBERS.length)] : draw(below);
    }

    private int key() {
        return number(keys > 10 ? 10 : keys);
    }

    private int value() {
        return number(draw(3) == 0 ? 100 : 30);
    }

    private void due(String call, long got, long want) {
        calls++;
        errors += want < 0 ? 1 : 0;
        check.due("run " + run + ", call " + calls + ": " + call, got, want);
    }

    private void makeCall() {
        switch (draw(24)) {
            case 0: case 1: case 2: case 3: callAdd(true); break;
            case 4: case 5: case 6: callAdd(false); break;
            case 7: case 8: callDrop(); break;
            case 9: case 10: callChange(); break;
            case 11: case 12: case 13: case 14: callStep(); break;
            case 15: due("again", x.again(), model.again()); break;
            case 16: callSet(); break;
            case 17: typeText(); break;
            case 18: due("undo", x.undo(), model.undo()); break;
            case 19: callSnapshot(); break;
            case 20: callWhatIf(); break;
            case 21: callLook(); break;
            case 22: callForget(); break;
            default: typeText(); break;
        }
    }

    private void callAdd(boolean inner) {
        int key = key();
        int value = value();
        due("add(" + inner + ", " + key + ", " + value + ")", x.add(inner, key, value), model.add(inner, key, value));
    }

    private void callDrop() {
        boolean inner = draw(3) > 0;
        int row = number(draw(2) == 0 ? 20 : 6);
        due("drop(" + inner + ", " + row + ")", x.drop(inner, row), model.drop(inner, row));
    }

    private void callChange() {
        int row = number(draw(2) == 0 ? 20 : 6);
        int key = key();
        int value = value();
        due("change(" + row + ", " + key + ", " + value + ")", x.change(row, key, value),
                model.change(row, key, value));
    }

    private void callStep() {
        int steps = number(draw(4) == 0 ? 22 : 5);
        due("step(" + steps + ")", x.step(steps), model.step(steps));
    }

    private void callForget() {
        if (draw(4) == 0) {
            due("forget", x.forget(), model.forget());
        }
    }

    private void callSet() {
        int what = draw(3) > 0 ? LoopMemo.BOUND : number(5);
        int value = what == LoopMemo.BOUND ? number(draw(2) == 0 ? 61 : 16) : what < 3 ? number(3)
                : what == LoopMemo.LOW ? number(15) : 99 - number(80);
        due("set(" + what + ", " + value + ")", x.set(what, value), model.set(what, value));
    }

    private void callSnapshot() {
        if (draw(2) == 0) {
            due("save", x.save(), model.save());
        } else {
            due("restore", x.restore(), model.restore());
        }
    }

    private void callWhatIf() {
        int bound = number(draw(2) == 0 ? 61 : 20);
        int what = number(4);
        int order = number(3);
        due("ifBound(" + bound + ", " + what + ")", x.ifBound(bound, what), model.ifBound(bound, what));
        due("ifOrdered(" + order + ")", x.ifOrdered(order), model.ifOrdered(order));
        due("leastBound", x.leastBound(), model.leastBound());
    }

    private void callLook() {
        boolean inner = draw(2) == 0;
        int what = number(6);
        int key = number(10);
        due("row(" + inner + ", " + key + ", " + what + ")", x.row(inner, key, what), model.row(inner, key, what));
        due("answer(" + key + ", " + what + ")", x.answer(key, what), model.answer(key, what));
        due("remembered(" + key + ", " + what + ")", x.remembered(key, what), model.remembered(key, what));
        due("count(" + what + ")", x.count(what), model.count(what));
        due("total(" + what + ")", x.total(what), model.total(what));
        due("fault(" + what + ")", x.fault(what), model.fault(what));
        due("why(" + what + ")", x.why(what), model.why(what));
    }

    private void typeText() {
        if (draw(3) > 0) {
            due("clear", x.clear(), model.clear());
        }
        boolean deeds = draw(2) == 0;
        StringBuilder text = new StringBuilder();
        int items = draw(8) == 0 ? 20 : 1 + draw(5);
        for (int i = 0; i < items; i++) {
            text.append(i == 0 ? "" : deeds ? ";" : ",").append(deeds ? deedText() : rowText());
        }
        if (draw(6) == 0) {
            text.insert(draw(text.length() + 1), ":;,+-sr0129x\u007f".charAt(draw(13)));
        }
        for (int i = 0; i < text.length() && calls < CALLS; i++) {
            int code = text.charAt(i);
            due("append(" + code + ")", x.append(code), model.append(code));
        }
        due("fault(0)", x.fault(0), model.fault(0));
        due("fault(1)", x.fault(1), model.fault(1));
        if (deeds) {
            due("carryOut", x.carryOut(), model.carryOut());
        } else {
            boolean inner = draw(2) == 0;
            due("fill(" + inner + ")", x.fill(inner), model.fill(inner));
        }
    }

    private String rowText() {
        return draw(keys > 10 ? 10 : keys) + ":" + draw(draw(2) == 0 ? 100 : 10);
    }

    private String deedText() {
        switch (draw(6)) {
            case 0: case 1: return "s" + (1 + draw(draw(3) == 0 ? 20 : 4));
            case 2: return "-" + draw(draw(3) == 0 ? 20 : 4);
            case 3: return "r";
            default: return "+" + rowText();
        }
    }

    /** These looks are not counted as calls of the run: they change nothing. */
    private void lookAtAll() {
        String at = "run " + run + ", behind call " + calls + ": ";
        for (int what = -1; what <= 20; what++) {
            check.due(at + "count(" + what + ")", x.count(what), model.count(what));
        }
        for (int what = -1; what <= 6; what++) {
            for (int key = -1; key <= 10; key++) {
                String end = "(" + key + ", " + what + ")";
                check.due(at + "answer" + end, x.answer(key, what), model.answer(key, what));
                check.due(at + "remembered" + end, x.remembered(key, what), model.remembered(key, what));
            }
        }
        for (int what = -1; what <= 3; what++) {
            for (int row = -1; row <= 20; row++) {
                String end = ", " + row + ", " + what + ")";
                check.due(at + "row(true" + end, x.row(true, row, what), model.row(true, row, what));
                check.due(at + "row(false" + end, x.row(false, row, what), model.row(false, row, what));
            }
            check.due(at + "why(" + what + ")", x.why(what), model.why(what));
            check.due(at + "total(" + what + ")", x.total(what), model.total(what));
            check.due(at + "fault(" + what + ")", x.fault(what), model.fault(what));
            check.due(at + "ifOrdered(" + what + ")", x.ifOrdered(what), model.ifOrdered(what));
        }
        check.dueDouble(at + "rate", x.rate(), model.rate());
    }
}
