/** Promises 5 to 8: the loop, what is remembered, the settings. */
public final class LoopTest {
    private static final Check check = new Check();

    public static void main(String[] args) {
        stepCostsAndAdds();
        stepStopsAtTheEnd();
        stepRefuses();
        answersWithoutRowsAreRemembered();
        tooHeavyAnswers();
        ruleOfTheLatestLook();
        ruleOfTheFewestLooks();
        ruleOfTheEarliestArrival();
        newOneIsSpared();
        aboveTheBoundUntilTheNextOne();
        againKeepsAnswers();
        forgetAll();
        setThrowsAllOut();
        setBoundThrowsOutByTheRule();
        setBoundBehindMending();
        setRefuses();
        bandWithLowAboveHigh();
        check.end();
    }

    private static void stepCostsAndAdds() {
        LoopMemo x = new LoopMemo();
        Check.addRows(x, true, "1:10,2:20,1:5");
        Check.addRows(x, false, "1:2,1:3,2:4");
        check.due("a miss", x.step(1), 5);
        check.due("total", x.count(5), 30);
        check.due("a hit and a miss", x.step(2), 6);
        check.due("total", x.count(5), 155);
        check.due("place", x.count(4), 3);
        check.due("hits", x.count(6), 1);
        check.due("misses", x.count(7), 2);
        check.due("cost", x.count(8), 11);
        LoopMemo y = new LoopMemo();
        y.add(false, 3, 7);
        check.due("a miss in an empty table", y.step(1), 2);
        check.due("its total", y.count(5), 0);
        LoopMemo z = new LoopMemo();
        for (int i = 0; i < 20; i++) {
            z.add(true, 5, 99);
            z.add(false, 5, 99);
        }
        check.due("twenty misses that are too heavy", z.step(20), 440);
        check.due("the greatest total", z.count(5), 20 * 99 * 20 * 99);
    }

    private static void stepStopsAtTheEnd() {
        LoopMemo x = new LoopMemo();
        Check.addRows(x, false, "1:2,1:3,2:4");
        check.due("step(2) of 3", x.step(2), 3);
        check.due("step(20), one is left", x.step(20), 2);
        check.due("step, none is left", x.step(1), LoopMemo.NOT_POSSIBLE);
        check.due("place", x.count(4), 3);
        x.add(false, 2, 1);
        check.due("step behind a row that came", x.step(20), 1);
    }

    private static void stepRefuses() {
        LoopMemo x = new LoopMemo();
        int[] wrong = {0, -1, 21, Integer.MIN_VALUE, Integer.MAX_VALUE};
        for (int steps : wrong) {
            check.due("step(" + steps + "), done", x.step(steps), LoopMemo.INVALID_ARGUMENT);
        }
        check.due("step(20), done", x.step(20), LoopMemo.NOT_POSSIBLE);
        x.add(false, 1, 1);
        for (int steps : wrong) {
            check.due("step(" + steps + ")", x.step(steps), LoopMemo.INVALID_ARGUMENT);
        }
        check.due("refused: place", x.count(4), 0);
        check.due("refused: misses", x.count(7), 0);
        check.due("refused: states", x.count(19), 1);
    }

    private static void answersWithoutRowsAreRemembered() {
        LoopMemo x = new LoopMemo();
        Check.addRows(x, true, "1:10");
        Check.addRows(x, false, "2:2,2:3");
        check.due("nothing is found", x.step(1), 3);
        check.due("that is remembered", x.remembered(2, 1), 2);
        check.due("it is a hit", x.step(1), 1);
    }

    private static void tooHeavyAnswers() {
        LoopMemo x = new LoopMemo();
        x.set(LoopMemo.BOUND, 4);
        Check.addRows(x, true, "1:1,1:2,1:3,2:1,2:2");
        Check.addRows(x, false, "3:1,2:1,1:1,1:1,2:1,3:1");
        check.due("an answer of weight 2", x.step(1), 7);
        check.due("an answer as heavy as the bound", x.step(1), 7);
        check.due("it is remembered", x.remembered(2, 1), 4);
        check.due("the other one made room", x.count(9), 1);
        check.due("an answer that is too heavy, twice", x.step(2), 14);
        check.due("too heavy", x.count(11), 2);
        check.due("nothing else is thrown out for it", x.count(9), 1);
        check.due("it is not remembered", x.remembered(1, 0), LoopMemo.NOT_FOUND);
        check.due("the other one is a hit still", x.step(1), 1);
        x.set(LoopMemo.BOUND, 1);
        check.due("no answer fits", x.step(1), 7);
        check.due("too heavy", x.count(11), 3);
        check.due("none is remembered", x.count(2), 0);
    }

    /** An object with four answers of weight 2 and room for four; looked up: 1 2 3 4 1 2 1 3 2, then once 5. */
    private static LoopMemo looked(int rule) {
        LoopMemo x = new LoopMemo();
        x.set(LoopMemo.BOUND, 8);
        x.set(LoopMemo.RULE, rule);
        Check.addRows(x, false, "1:0,2:0,3:0,4:0,1:0,2:0,1:0,3:0,4:0,2:0,5:0,6:0,7:0");
        x.step(10);
        return x;
    }

    private static void dueOrder(String at, LoopMemo x, String keys) {
        for (int key = 0; key < 10; key++) {
            int place = keys.indexOf('0' + key);
            check.due(at + ": place of " + key, x.remembered(key, 5), place < 0 ? LoopMemo.NOT_FOUND : place);
        }
    }

    private static void ruleOfTheLatestLook() {
        LoopMemo x = looked(0);
        dueOrder("rule 0", x, "1342");
        x.step(1);
        dueOrder("rule 0, 5", x, "3425");
        x.step(1);
        dueOrder("rule 0, 6", x, "4256");
        x.step(1);
        dueOrder("rule 0, 7", x, "2567");
        check.due("rule 0: made room", x.count(9), 3);
    }

    private static void ruleOfTheFewestLooks() {
        LoopMemo x = looked(1);
        dueOrder("rule 1", x, "3412");
        check.due("rule 1: looks of 1", x.remembered(1, 4), 3);
        check.due("rule 1: looks of 3", x.remembered(3, 4), 2);
        x.step(1);
        dueOrder("rule 1, 5", x, "5412");
        check.due("rule 1: looks of 5", x.remembered(5, 4), 1);
        x.step(1);
        dueOrder("rule 1, 6", x, "6412");
        x.add(false, 6, 0);
        x.add(false, 6, 0);
        x.step(3);
        dueOrder("rule 1, 7 and 6 twice: 4 has as many looks, earlier ones", x, "4612");
        check.due("rule 1: 6 is counted from anew", x.remembered(6, 4), 2);
    }

    private static void ruleOfTheEarliestArrival() {
        LoopMemo x = looked(2);
        dueOrder("rule 2", x, "1234");
        x.step(1);
        dueOrder("rule 2, 5", x, "2345");
        x.add(false, 1, 0);
        x.step(3);
        dueOrder("rule 2, 6, 7 and 1", x, "5671");
    }

    private static void newOneIsSpared() {
        LoopMemo x = new LoopMemo();
        x.set(LoopMemo.BOUND, 7);
        x.set(LoopMemo.RULE, 1);
        Check.addRows(x, true, "3:1,3:1,3:1,3:1");
        Check.addRows(x, false, "1:1,1:1,2:1,2:1,3:1");
        x.step(5);
        dueOrder("the new one is the least often looked up", x, "3");
        check.due("two are thrown out for one", x.count(9), 2);
    }

    private static void aboveTheBoundUntilTheNextOne() {
        LoopMemo x = new LoopMemo();
        x.set(LoopMemo.BOUND, 6);
        x.set(LoopMemo.KEEPING, 2);
        Check.addRows(x, false, "1:1,2:1,1:1,3:1,4:1");
        Check.addRows(x, true, "3:1,3:1,3:1,3:1,3:1");
        x.step(2);
        Check.addRows(x, true, "1:1,1:1,1:1,1:1,1:1");
        check.due("above the bound", x.count(3), 9);
        check.due("a hit throws nothing out", x.step(1), 1);
        check.due("still above the bound", x.count(3), 9);
        check.due("one that is too heavy throws nothing out", x.step(1), 12);
        check.due("it was too heavy", x.count(11), 1);
        check.due("still above the bound", x.count(3), 9);
        x.step(1);
        check.due("the next one that is remembered makes room", x.count(3), 2);
        check.due("two made room", x.count(9), 2);
    }

    private static void againKeepsAnswers() {
        LoopMemo x = new LoopMemo();
        check.due("again() on a new object", x.again(), 0);
        check.due("it is a change", x.count(19), 1);
        Check.addRows(x, true, "1:10");
        Check.addRows(x, false, "1:2,1:3");
        x.step(2);
        check.due("again() tells the total", x.again(), 50);
        check.due("place", x.count(4), 0);
        check.due("total", x.count(5), 0);
        check.due("remembered", x.count(2), 1);
        check.due("cost so far", x.count(8), 4);
        check.due("a hit behind again()", x.step(1), 1);
        check.due("again() in the middle", x.again(), 20);
    }

    private static void forgetAll() {
        LoopMemo x = new LoopMemo();
        Check.addRows(x, false, "1:2,2:3,1:1");
        x.step(3);
        check.due("forget()", x.forget(), 2);
        check.due("forgotten", x.count(10), 2);
        check.due("none is remembered", x.count(2), 0);
        check.due("no weights", x.count(3), 0);
        check.due("forget() without any", x.forget(), 0);
        check.due("forgotten so far", x.count(10), 2);
        check.due("the place stays", x.count(4), 3);
        x.again();
        check.due("a miss behind forget()", x.step(1), 2);
        check.due("it is counted from anew", x.remembered(1, 4), 1);
    }

    private static void setThrowsAllOut() {
        int[][] sets = {{1, 0}, {1, 2}, {2, 0}, {2, 1}, {3, 0}, {3, 99}, {4, 99}, {4, 0}};
        for (int[] set : sets) {
            LoopMemo x = new LoopMemo();
            Check.addRows(x, false, "1:2,2:3,1:1");
            x.step(3);
            String call = "set(" + set[0] + ", " + set[1] + ")";
            check.due(call, x.set(set[0], set[1]), 2);
            check.due(call + ": remembered", x.count(2), 0);
            check.due(call + ": thrown out otherwise", x.count(10), 2);
            check.due(call + ": thrown out to make room", x.count(9), 0);
            check.due(call + ": the setting", x.count(13 + set[0]), set[1]);
        }
    }

    private static void setBoundThrowsOutByTheRule() {
        String[] orders = {"1342", "3412", "1234"};
        for (int rule = 0; rule < 3; rule++) {
            LoopMemo x = looked(rule);
            String at = "bound, rule " + rule;
            check.due(at + ": the same", x.set(LoopMemo.BOUND, 8), 0);
            check.due(at + ": greater", x.set(LoopMemo.BOUND, 60), 0);
            dueOrder(at, x, orders[rule]);
            check.due(at + ": lesser", x.set(LoopMemo.BOUND, 7), 1);
            dueOrder(at + ", 7", x, orders[rule].substring(1));
            check.due(at + ": lesser by two", x.set(LoopMemo.BOUND, 2), 2);
            dueOrder(at + ", 2", x, orders[rule].substring(3));
            check.due(at + ": none fits", x.set(LoopMemo.BOUND, 1), 1);
            check.due(at + ": none is left", x.count(2), 0);
            check.due(at + ": thrown out by that", x.count(9), 4);
            check.due(at + ": thrown out otherwise", x.count(10), 0);
            check.due(at + ": the setting", x.count(13), 1);
            check.due(at + ": nothing", x.set(LoopMemo.BOUND, 0), 0);
        }
    }

    private static void setBoundBehindMending() {
        LoopMemo x = new LoopMemo();
        x.set(LoopMemo.KEEPING, 2);
        x.set(LoopMemo.BOUND, 4);
        Check.addRows(x, false, "1:1,2:1");
        x.step(2);
        Check.addRows(x, true, "2:1,2:1,2:1");
        check.due("above the bound", x.count(3), 7);
        check.due("set to a greater bound that they are above", x.set(LoopMemo.BOUND, 5), 1);
        check.due("the later one is left", x.remembered(2, 1), 5);
        x.add(true, 2, 1);
        check.due("set to the same bound", x.set(LoopMemo.BOUND, 5), 1);
        check.due("none is left", x.count(2), 0);
        check.due("thrown out by the bound", x.count(9), 2);
    }

    private static void setRefuses() {
        LoopMemo x = new LoopMemo();
        Check.addRows(x, false, "1:1,2:1");
        x.step(2);
        int[][] wrong = {{-1, 0}, {5, 0}, {0, -1}, {0, 61}, {1, -1}, {1, 3}, {2, -1}, {2, 3}, {3, -1}, {3, 100},
            {4, -1}, {4, 100}, {Integer.MIN_VALUE, 0}, {Integer.MAX_VALUE, 0}, {0, Integer.MAX_VALUE}};
        for (int[] set : wrong) {
            check.due("set(" + set[0] + ", " + set[1] + ")", x.set(set[0], set[1]), LoopMemo.INVALID_ARGUMENT);
        }
        int[] first = {12, 0, 0, 0, 99};
        for (int what = 0; what < 5; what++) {
            check.due("set refused: count(" + (13 + what) + ")", x.count(13 + what), first[what]);
        }
        check.due("set refused: remembered", x.count(2), 2);
        check.due("set refused: states", x.count(19), 3);
        int[] highest = {60, 2, 2, 99, 99};
        for (int what = 0; what < 5; what++) {
            x.set(what, highest[what]);
            check.due("set to the highest: count(" + (13 + what) + ")", x.count(13 + what), highest[what]);
            x.set(what, 0);
            check.due("set to the lowest: count(" + (13 + what) + ")", x.count(13 + what), 0);
        }
    }

    private static void bandWithLowAboveHigh() {
        LoopMemo x = new LoopMemo();
        Check.addRows(x, true, "1:10,1:20,1:30");
        x.set(LoopMemo.LOW, 10);
        x.set(LoopMemo.HIGH, 20);
        check.due("a band of 10 to 20", x.answer(1, 2), 30);
        x.set(LoopMemo.LOW, 11);
        check.due("a band of 11 to 20", x.answer(1, 2), 20);
        check.due("its first row", x.answer(1, 3), 1);
        x.set(LoopMemo.HIGH, 19);
        check.due("a band of 11 to 19", x.answer(1, 0), 0);
        x.set(LoopMemo.HIGH, 30);
        x.set(LoopMemo.LOW, 31);
        check.due("a band of 31 to 30", x.answer(1, 0), 0);
        check.due("no first row", x.answer(1, 3), LoopMemo.NOT_FOUND);
        x.set(LoopMemo.LOW, 30);
        check.due("a band of 30 to 30", x.answer(1, 2), 30);
    }
}
