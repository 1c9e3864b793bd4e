/** Promises 21 to 23: what another bound or another order would bring. */
public final class WhatIfTest {
    private static final Check check = new Check();

    public static void main(String[] args) {
        boundTellsTheRest();
        boundIsSetAtOnce();
        boundByEachRule();
        boundOfALoopThatIsDone();
        boundRefuses();
        orders();
        orderOfTheRestOnly();
        orderRefuses();
        leastOfAll();
        leastMayBeBelowWorseOnes();
        nothingIsChanged();
        check.end();
    }

    /** Inner rows 1:10, 2:20, 2:30, 3:40; the weights of 1, 2, 3 and 4 are 3, 4, 3 and 2. */
    private static LoopMemo filled(String outer) {
        LoopMemo x = new LoopMemo();
        Check.addRows(x, true, "1:10,2:20,2:30,3:40");
        Check.addRows(x, false, outer);
        return x;
    }

    private static void dueBrought(LoopMemo x, int bound, int... want) {
        for (int what = 0; what < 4; what++) {
            check.due("ifBound(" + bound + ", " + what + ")", x.ifBound(bound, what), want[what]);
        }
    }

    private static void boundTellsTheRest() {
        LoopMemo x = filled("1:1,2:1,1:1,3:1,2:2,1:9,4:1");
        dueBrought(x, 0, 42, 0, 7, 0);
        dueBrought(x, 7, 37, 1, 6, 4);
        dueBrought(x, 10, 27, 3, 4, 1);
        dueBrought(x, 12, 27, 3, 4, 0);
        dueBrought(x, 60, 27, 3, 4, 0);
        x.step(4);
        dueBrought(x, 12, 8, 2, 1, 0);
        dueBrought(x, 0, 18, 0, 3, 3);
        x.set(LoopMemo.BOUND, 9);
        check.due("step(20) behind set() brings what was told", x.ifBound(7, 0), 18);
        x.set(LoopMemo.BOUND, 7);
        check.due("that is what it costs", x.step(20), 18);
    }

    private static void boundIsSetAtOnce() {
        LoopMemo x = new LoopMemo();
        x.set(LoopMemo.KEEPING, 2);
        x.set(LoopMemo.BOUND, 4);
        Check.addRows(x, false, "1:1,2:1,1:1");
        x.step(2);
        Check.addRows(x, true, "2:1");
        check.due("above the bound", x.count(3), 5);
        check.due("a hit, if the bound is left alone", x.ifOrdered(0), 1);
        dueBrought(x, 4, 3, 0, 1, 2);
        dueBrought(x, 5, 1, 1, 0, 0);
    }

    /** Looked up: 1 2 1 3; left: 4 5 4 1 2 3. Each answer weighs 2. */
    private static void boundByEachRule() {
        int[][] want = {{11, 5}, {10, 4}, {11, 5}};
        for (int rule = 0; rule < 3; rule++) {
            LoopMemo x = new LoopMemo();
            x.set(LoopMemo.BOUND, 6);
            x.set(LoopMemo.RULE, rule);
            Check.addRows(x, false, "1:1,2:1,1:1,3:1,4:1,5:1,4:1,1:1,2:1,3:1");
            x.step(4);
            int told = x.ifBound(6, 0);
            int made = x.ifBound(6, 3);
            int before = x.count(9);
            check.due("rule " + rule + ": what was told is what it costs", x.step(20), told);
            check.due("rule " + rule + ": what was told makes room", x.count(9) - before, made);
            check.due("rule " + rule + ": the cost", told, want[rule][0]);
            check.due("rule " + rule + ": thrown out", made, want[rule][1]);
        }
    }

    private static void boundOfALoopThatIsDone() {
        LoopMemo x = filled("1:1,2:1");
        x.step(20);
        dueBrought(x, 60, 0, 0, 0, 0);
        dueBrought(x, 6, 0, 0, 0, 1);
        dueBrought(x, 0, 0, 0, 0, 2);
        check.due("leastBound() of a loop that is done", x.leastBound(), 0);
        check.due("ifOrdered(1) of a loop that is done", x.ifOrdered(1), 0);
        dueBrought(new LoopMemo(), 12, 0, 0, 0, 0);
    }

    private static void boundRefuses() {
        LoopMemo x = filled("1:1");
        int[][] wrong = {{-1, 0}, {61, 0}, {0, -1}, {0, 4}, {Integer.MIN_VALUE, 0}, {0, Integer.MAX_VALUE}};
        for (int[] call : wrong) {
            check.due("ifBound(" + call[0] + ", " + call[1] + ")", x.ifBound(call[0], call[1]), -1);
        }
    }

    private static void orders() {
        LoopMemo x = filled("1:1,2:1,1:1,3:1,2:2,1:9,4:1");
        x.set(LoopMemo.BOUND, 7);
        check.due("ifOrdered(0)", x.ifOrdered(0), 37);
        check.due("ifOrdered(1)", x.ifOrdered(1), 27);
        check.due("ifOrdered(2)", x.ifOrdered(2), 37);
        LoopMemo y = new LoopMemo();
        y.set(LoopMemo.BOUND, 4);
        Check.addRows(y, false, "1:1,3:1,2:1,1:1,3:1,3:1");
        check.due("as they are: 1 3 2 1 3 3", y.ifOrdered(0), 11);
        check.due("by keys: 1 1 2 3 3 3", y.ifOrdered(1), 9);
        y.step(1);
        y.forget();
        y.step(1);
        check.due("3 is remembered; as they are: 2 1 3 3", y.ifOrdered(0), 7);
        check.due("3 is remembered; by keys: 1 2 3 3", y.ifOrdered(1), 7);
        check.due("3 is remembered; the last one first: 3 3 1 2", y.ifOrdered(2), 6);
    }

    private static void orderOfTheRestOnly() {
        LoopMemo x = new LoopMemo();
        x.set(LoopMemo.BOUND, 2);
        Check.addRows(x, false, "9:1,1:1,9:1,9:1,1:1");
        x.step(1);
        check.due("the rest as it is: 1 9 9 1", x.ifOrdered(0), 7);
        check.due("the rest by keys: 1 1 9 9", x.ifOrdered(1), 6);
        check.due("the rest, the last one first: 1 9 9 1", x.ifOrdered(2), 7);
        x.step(2);
        check.due("the rest as it is: 9 1", x.ifOrdered(0), 3);
        check.due("the rest by keys: 1 9", x.ifOrdered(1), 4);
        check.due("the rest, the last one first: 1 9", x.ifOrdered(2), 4);
    }

    private static void orderRefuses() {
        LoopMemo x = filled("1:1");
        int[] wrong = {-1, 3, Integer.MIN_VALUE, Integer.MAX_VALUE};
        for (int order : wrong) {
            check.due("ifOrdered(" + order + ")", x.ifOrdered(order), LoopMemo.INVALID_ARGUMENT);
        }
    }

    private static void dueLeast(String at, LoopMemo x, int want) {
        int least = x.leastBound();
        check.due(at + ": leastBound()", least, want);
        int leastCost = x.ifBound(least, 0);
        for (int bound = 0; bound <= 60; bound++) {
            int cost = x.ifBound(bound, 0);
            check.due(at + ": " + bound + " is no better", cost < leastCost ? 1 : 0, 0);
            check.due(at + ": " + bound + " is no lesser one as good", bound < least && cost == leastCost ? 1 : 0, 0);
        }
    }

    private static void leastOfAll() {
        dueLeast("seven rows", filled("1:1,2:1,1:1,3:1,2:2,1:9,4:1"), 10);
        dueLeast("no key comes twice", filled("1:1,2:1,3:1,4:1"), 0);
        dueLeast("one key twice", filled("2:1,2:1"), 4);
        LoopMemo wide = new LoopMemo();
        for (int i = 0; i < 20; i++) {
            wide.add(true, i % 10, i);
            wide.add(false, i % 10, i);
        }
        dueLeast("all keys twice", wide, 40);
        wide.set(LoopMemo.BOUND, 60);
        wide.step(10);
        dueLeast("all are remembered", wide, 40);
        wide.step(9);
        dueLeast("the one that is needed would be thrown out first", wide, 40);
        wide.drop(false, 19);
        wide.add(false, 8, 1);
        dueLeast("the one that is needed would be thrown out last", wide, 4);
    }

    /** More room may be worse: with 5 the answer for 2 is too heavy, and those for 1 and 3 stay. */
    private static void leastMayBeBelowWorseOnes() {
        LoopMemo x = new LoopMemo();
        Check.addRows(x, true, "2:1,2:1,2:1,2:1");
        Check.addRows(x, false, "1:1,3:1,2:1,1:1,3:1");
        check.due("with a bound of 5", x.ifBound(5, 0), 20);
        check.due("with a bound of 6", x.ifBound(6, 0), 30);
        dueLeast("heavy answers", x, 4);
    }

    private static void nothingIsChanged() {
        LoopMemo x = filled("1:1,2:1,1:1,3:1,2:2,1:9,4:1");
        x.set(LoopMemo.BOUND, 7);
        x.step(3);
        for (int what = 0; what < 20; what++) {
            int before = x.count(what);
            x.ifBound(0, what % 4);
            x.ifBound(60, what % 4);
            x.ifOrdered(1);
            x.ifOrdered(2);
            x.leastBound();
            check.due("count(" + what + ") behind what would be", x.count(what), before);
        }
        int[] keys = {1, 2, 1, 3, 2, 1, 4};
        for (int row = 0; row < keys.length; row++) {
            check.due("the key of outer row " + row, x.row(false, row, 0), keys[row]);
        }
        check.due("the looks of 1", x.remembered(1, 4), 2);
        check.due("the place of 1", x.remembered(1, 5), 1);
    }
}
