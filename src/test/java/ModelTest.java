/**
 * Long runs of calls, drawn from a fixed row of numbers: LoopMemo and the plain model must answer alike. A run has the
 * 512 calls that are promised, looks among them: first a drawn number of calls of all kinds, then looks alone.
 */
public final class ModelTest {
    private static final int RUNS = 6000;
    private static final int CALLS = 512;
    /** A drawn call may be some calls together: so many are left free for them behind the last one. */
    private static final int MOST_AT_ONCE = 10;
    /** How many different arguments each of the looks is asked with; most of these are in range. */
    private static final int COUNTS = 22, WHATS = 8, KEYS = 12, ROW_WHATS = 5, ROWS = 22, BOUNDS = 63, FEW = 5;
    private static final int[] LOOKS = {COUNTS, WHATS * KEYS, WHATS * KEYS, ROW_WHATS * ROWS, ROW_WHATS * ROWS, FEW,
        FEW, FEW, FEW, (FEW + 1) * BOUNDS, 1, 1};
    private static final int[] ODD_NUMBERS = {-1, -2, 100, 61, 21, 20, 10, 5, 3, Integer.MIN_VALUE, Integer.MAX_VALUE};

    /** Signs of the texts, those beside the digits, and those on the edges of what append() takes. */
    private static final String ODD_SIGNS = ":;,+-sr0129x/ !~\u007f";

    private final Check check = new Check();
    private long drawn;
    private int run;
    private int calls;
    private int keys;
    private LoopMemo x;
    private PlainModel model;

    public static void main(String[] args) {
        ModelTest test = new ModelTest();
        for (int run = 1; run <= RUNS && test.check.isAllRight(); run++) {
            test.makeRun(run);
        }
        test.check.end();
    }

    private void makeRun(int number) {
        run = number;
        drawn = 7919L * number;
        calls = 0;
        keys = 2 + draw(9);
        x = new LoopMemo();
        model = new PlainModel();
        int busy = 20 + draw(CALLS - MOST_AT_ONCE - 20);
        int looks = draw(4);
        while (calls < busy && check.isAllRight()) {
            makeCall();
            for (int i = 0; i < looks && calls < CALLS; i++) {
                look(draw(allLooks()));
            }
        }
        for (int next = draw(allLooks()); calls < CALLS && check.isAllRight(); next = (next + 1) % allLooks()) {
            look(next);
        }
    }

    private static int allLooks() {
        int sum = 0;
        for (int looks : LOOKS) {
            sum += looks;
        }
        return sum;
    }

    private int draw(int below) {
        drawn = drawn * 6364136223846793005L + 1442695040888963407L;
        return (int) ((drawn >>> 33) % below);
    }

    /** Mostly from 0 up to a number, at times one that may be out of range. */
    private int number(int below) {
        return draw(25) == 0 ? ODD_NUMBERS[draw(ODD_NUMBERS.length)] : draw(below);
    }

    private int key() {
        return number(keys > 10 ? 10 : keys);
    }

    private int value() {
        return number(draw(3) == 0 ? 100 : 30);
    }

    private void due(String call, long got, long want) {
        calls++;
        check.due("run " + run + ", call " + calls + ": " + call, got, want);
    }

    private void makeCall() {
        switch (draw(24)) {
            case 0: case 1: case 2: case 3: callAdd(true); break;
            case 4: case 5: case 6: callAdd(false); break;
            case 7: case 8: callDrop(); break;
            case 9: case 10: callChange(); break;
            case 11: case 12: case 13: case 14: callStep(); break;
            case 15: due("again", x.again(), model.again()); break;
            case 16: callSet(); break;
            case 17: typeText(); break;
            case 18: due("undo", x.undo(), model.undo()); break;
            case 19: callSnapshot(); break;
            case 20: callWhatIf(); break;
            case 21: callLook(); break;
            case 22: callForget(); break;
            default: typeText(); break;
        }
    }

    private void callAdd(boolean inner) {
        int key = key();
        int value = value();
        due("add(" + inner + ", " + key + ", " + value + ")", x.add(inner, key, value), model.add(inner, key, value));
    }

    private void callDrop() {
        boolean inner = draw(3) > 0;
        int row = number(draw(2) == 0 ? 20 : 6);
        due("drop(" + inner + ", " + row + ")", x.drop(inner, row), model.drop(inner, row));
    }

    private void callChange() {
        int row = number(draw(2) == 0 ? 20 : 6);
        int key = key();
        int value = value();
        due("change(" + row + ", " + key + ", " + value + ")", x.change(row, key, value),
                model.change(row, key, value));
    }

    private void callStep() {
        int steps = number(draw(4) == 0 ? 22 : 5);
        due("step(" + steps + ")", x.step(steps), model.step(steps));
    }

    private void callForget() {
        if (draw(4) == 0) {
            due("forget", x.forget(), model.forget());
        }
    }

    private void callSet() {
        int what = draw(3) > 0 ? LoopMemo.BOUND : number(5);
        int value = what == LoopMemo.BOUND ? number(draw(2) == 0 ? 61 : 16) : what < 3 ? number(3)
                : what == LoopMemo.LOW ? number(15) : 99 - number(80);
        due("set(" + what + ", " + value + ")", x.set(what, value), model.set(what, value));
    }

    private void callSnapshot() {
        if (draw(2) == 0) {
            due("save", x.save(), model.save());
        } else {
            due("restore", x.restore(), model.restore());
        }
    }

    private void callWhatIf() {
        int bound = number(draw(2) == 0 ? 61 : 20);
        int what = number(4);
        int order = number(3);
        due("ifBound(" + bound + ", " + what + ")", x.ifBound(bound, what), model.ifBound(bound, what));
        due("ifOrdered(" + order + ")", x.ifOrdered(order), model.ifOrdered(order));
        due("leastBound", x.leastBound(), model.leastBound());
    }

    private void callLook() {
        boolean inner = draw(2) == 0;
        int what = number(6);
        int key = number(10);
        due("row(" + inner + ", " + key + ", " + what + ")", x.row(inner, key, what), model.row(inner, key, what));
        due("answer(" + key + ", " + what + ")", x.answer(key, what), model.answer(key, what));
        due("remembered(" + key + ", " + what + ")", x.remembered(key, what), model.remembered(key, what));
        due("count(" + what + ")", x.count(what), model.count(what));
        due("total(" + what + ")", x.total(what), model.total(what));
        due("fault(" + what + ")", x.fault(what), model.fault(what));
        due("why(" + what + ")", x.why(what), model.why(what));
    }

    private void typeText() {
        if (draw(3) > 0) {
            due("clear", x.clear(), model.clear());
        }
        boolean deeds = draw(2) == 0;
        StringBuilder text = new StringBuilder();
        int items = draw(8) == 0 ? 20 : 1 + draw(5);
        for (int i = 0; i < items; i++) {
            text.append(i == 0 ? "" : deeds ? ";" : ",").append(deeds ? deedText() : rowText());
        }
        if (draw(6) == 0) {
            text.insert(draw(text.length() + 1), ODD_SIGNS.charAt(draw(ODD_SIGNS.length())));
        }
        for (int i = 0; i < text.length() && calls < CALLS - 3; i++) {
            int code = text.charAt(i);
            due("append(" + code + ")", x.append(code), model.append(code));
        }
        due("fault(0)", x.fault(0), model.fault(0));
        due("fault(1)", x.fault(1), model.fault(1));
        if (deeds) {
            due("carryOut", x.carryOut(), model.carryOut());
        } else {
            boolean inner = draw(2) == 0;
            due("fill(" + inner + ")", x.fill(inner), model.fill(inner));
        }
    }

    private String rowText() {
        return draw(keys > 10 ? 10 : keys) + ":" + draw(draw(2) == 0 ? 100 : 10);
    }

    private String deedText() {
        switch (draw(6)) {
            case 0: case 1: return "s" + (1 + draw(draw(3) == 0 ? 20 : 4));
            case 2: return "-" + draw(draw(3) == 0 ? 20 : 4);
            case 3: return "r";
            default: return "+" + rowText();
        }
    }

    private void look(int number) {
        int kind = 0;
        while (kind < LOOKS.length - 1 && number >= LOOKS[kind]) {
            number -= LOOKS[kind];
            kind++;
        }
        lookAt(kind, number);
    }

    private void lookAt(int kind, int number) {
        int one = number - 1;
        int what = number / KEYS - 1;
        int key = number % KEYS - 1;
        int rowWhat = number / ROWS - 1;
        int row = number % ROWS - 1;
        int brought = number / BOUNDS - 1;
        int bound = number % BOUNDS - 1;
        switch (kind) {
            case 0: due("count(" + one + ")", x.count(one), model.count(one)); break;
            case 1: due("answer(" + key + ", " + what + ")", x.answer(key, what), model.answer(key, what)); break;
            case 2: due("remembered(" + key + ", " + what + ")", x.remembered(key, what),
                    model.remembered(key, what)); break;
            case 3: lookAtRow(true, row, rowWhat); break;
            case 4: lookAtRow(false, row, rowWhat); break;
            case 5: due("why(" + one + ")", x.why(one), model.why(one)); break;
            case 6: due("total(" + one + ")", x.total(one), model.total(one)); break;
            case 7: due("fault(" + one + ")", x.fault(one), model.fault(one)); break;
            case 8: due("ifOrdered(" + one + ")", x.ifOrdered(one), model.ifOrdered(one)); break;
            case 9: due("ifBound(" + bound + ", " + brought + ")", x.ifBound(bound, brought),
                    model.ifBound(bound, brought)); break;
            case 10: due("leastBound", x.leastBound(), model.leastBound()); break;
            default: lookAtRate(); break;
        }
    }

    private void lookAtRow(boolean inner, int row, int what) {
        due("row(" + inner + ", " + row + ", " + what + ")", x.row(inner, row, what), model.row(inner, row, what));
    }

    private void lookAtRate() {
        calls++;
        check.dueDouble("run " + run + ", call " + calls + ": rate", x.rate(), model.rate());
    }
}
