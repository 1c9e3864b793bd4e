/** A test for each part of the document's first sentence, and for the 512 calls. */
final class OpeningEdges {
    private static final int CALLS = 512;
    private static final int LATER_CALLS = 400_000;

    private OpeningEdges() {
    }

    static void all(Sentences s) {
        s.section("What it is");
        s.holds("Nested loops kept warm by answers remembered within a bound:", OpeningEdges::warmWithinABound);
        s.holds("rows of an outer and of an inner table,", OpeningEdges::twoTables);
        s.holds("answers of the inner one by keys and a band of values,", OpeningEdges::keysAndABand);
        s.holds("answers that are remembered, also if nothing was found,", OpeningEdges::nothingIsRememberedToo);
        s.holds("weights and a bound,", OpeningEdges::weightsAndABound);
        s.holds("three rules by which one is thrown out,", OpeningEdges::threeRules);
        s.holds("rows of the inner table that come, go and change under remembered answers,",
                OpeningEdges::rowsUnderAnswers);
        s.holds("three ways to keep them true,", OpeningEdges::threeWays);
        s.holds("hits and misses, what they cost, what was saved,", OpeningEdges::costAndWhatWasSaved);
        s.holds("answers that are too heavy,", OpeningEdges::tooHeavy);
        s.holds("the loop step by step,", OpeningEdges::stepByStep);
        s.holds("totals told with and without what is remembered,", OpeningEdges::totalsBothWays);
        s.holds("what another bound or another order would bring,", OpeningEdges::otherBoundOrOrder);
        s.holds("the least bound that is as good as any,", OpeningEdges::leastBoundAsGood);
        s.holds("rows and deeds that are read from texts with the places of faults and the reasons of stops,",
                OpeningEdges::rowsAndDeedsOfTexts);
        s.holds("undo, and a snapshot.", OpeningEdges::undoAndASnapshot);
        s.holds("An object is used for at most 512 calls after it has been made;", OpeningEdges::allCallsAnswer);
        s.holds("what later calls answer is free.", OpeningEdges::laterCallsEnd);
    }

    /** Inner rows 1:10, 2:20, 2:30, 3:40; the weights of 1, 2, 3 and 4 are 3, 4, 3 and 2. */
    private static LoopMemo rows(String outer) {
        LoopMemo x = new LoopMemo();
        Check.addRows(x, true, "1:10,2:20,2:30,3:40");
        Check.addRows(x, false, outer);
        return x;
    }

    private static void warmWithinABound(Check c) {
        dueRounds(c, 12, 4 * 6 + 3, 7);
        dueRounds(c, 9, 6 * 6 + 1, 4 * 6 + 3);
    }

    private static void dueRounds(Check c, int bound, int cold, int warm) {
        LoopMemo x = rows("1:1,2:1,1:1,3:1,2:2,1:9,4:1");
        x.set(LoopMemo.BOUND, bound);
        int cost = 0;
        while (x.count(4) < x.count(0)) {
            cost += x.step(1);
            c.due("weights above the bound of " + bound, Math.max(0, x.count(3) - bound), 0);
        }
        c.due("the first round, with a bound of " + bound, cost, cold);
        x.again();
        c.due("the second round, with a bound of " + bound, x.step(20), warm);
    }

    private static void twoTables(Check c) {
        LoopMemo x = new LoopMemo();
        x.add(false, 1, 2);
        x.add(true, 3, 4);
        x.add(true, 5, 6);
        c.due("outer rows", x.count(0), 1);
        c.due("inner rows", x.count(1), 2);
        c.due("the key of the outer row", x.row(false, 0, 0), 1);
        c.due("the key of the first inner row", x.row(true, 0, 0), 3);
    }

    private static void keysAndABand(Check c) {
        LoopMemo x = rows("1:1");
        x.set(LoopMemo.LOW, 20);
        x.set(LoopMemo.HIGH, 29);
        int[] found = {0, 0, 1, 0, 0, 0, 0, 0, 0, 0};
        for (int key = 0; key <= 9; key++) {
            c.due("rows for the key " + key, x.answer(key, 0), found[key]);
        }
        c.due("the sum", x.answer(2, 2), 20);
    }

    private static void nothingIsRememberedToo(Check c) {
        LoopMemo x = rows("4:7,4:8");
        c.due("a miss", x.step(1), 6);
        c.due("its rows", x.remembered(4, 0), 0);
        c.due("a hit", x.step(1), 1);
        c.due("the total", x.count(5), 0);
    }

    private static void weightsAndABound(Check c) {
        LoopMemo x = rows("1:1,2:1,3:1,4:1");
        x.step(3);
        c.due("the weights of 1, 2 and 3", x.count(3), 3 + 4 + 3);
        x.set(LoopMemo.BOUND, 11);
        c.due("none is thrown out", x.count(2), 3);
        x.step(1);
        c.due("1 is thrown out for 4", x.count(3), 4 + 3 + 2);
    }

    private static void threeRules(Check c) {
        int[] goes = {2, 3, 1};
        for (int rule = 0; rule <= 2; rule++) {
            LoopMemo x = new LoopMemo();
            x.set(LoopMemo.RULE, rule);
            x.set(LoopMemo.BOUND, 6);
            Check.addRows(x, false, "1:1,2:1,2:1,3:1,1:1,4:1");
            x.step(6);
            for (int key = 1; key <= 4; key++) {
                c.due("rule " + rule + ": weight of " + key, x.remembered(key, 1),
                        key == goes[rule] ? LoopMemo.NOT_FOUND : 2);
            }
        }
    }

    private static void rowsUnderAnswers(Check c) {
        LoopMemo x = rows("2:1,2:1");
        x.set(LoopMemo.KEEPING, 2);
        x.step(1);
        c.due("the sum", x.remembered(2, 2), 50);
        x.add(true, 2, 5);
        c.due("a row has come", x.remembered(2, 2), 55);
        x.drop(true, 1);
        c.due("a row has gone", x.remembered(2, 2), 35);
        x.change(0, 2, 9);
        c.due("a row has changed", x.remembered(2, 2), 44);
        c.due("a hit", x.step(1), 1);
        c.due("the total", x.count(5), 50 + 44);
    }

    private static void threeWays(Check c) {
        int[] left = {1, 0, 2};
        for (int keeping = 0; keeping <= 2; keeping++) {
            LoopMemo x = rows("1:1,3:1");
            x.set(LoopMemo.KEEPING, keeping);
            x.step(2);
            x.add(true, 1, 1);
            c.due("KEEPING " + keeping + ": what is left", x.count(2), left[keeping]);
            x.again();
            x.step(2);
            c.due("KEEPING " + keeping + ": the total", x.count(5), 11 + 40);
        }
    }

    private static void costAndWhatWasSaved(Check c) {
        LoopMemo x = rows("1:1,1:1,2:1,1:1");
        int without = x.ifBound(0, 0);
        x.step(4);
        c.due("hits", x.count(6), 2);
        c.due("misses", x.count(7), 2);
        c.due("what they cost", x.count(8), 2 * 6 + 2);
        c.due("what was saved by two hits", without - x.count(8), 2 * 5);
        c.dueDouble("how often a look is a hit", x.rate(), 0.5);
    }

    private static void tooHeavy(Check c) {
        LoopMemo x = rows("3:1,2:1,3:1");
        x.set(LoopMemo.BOUND, 3);
        x.step(3);
        c.due("the answer for 2", x.count(11), 1);
        c.due("it is not remembered", x.remembered(2, 0), LoopMemo.NOT_FOUND);
        c.due("nothing is thrown out for it", x.count(6), 1);
    }

    private static void stepByStep(Check c) {
        LoopMemo x = rows("1:1,2:2,3:3");
        int[] totals = {10, 10 + 100, 10 + 100 + 120};
        for (int place = 1; place <= 3; place++) {
            c.due("the cost", x.step(1), 6);
            c.due("the place", x.count(4), place);
            c.due("the total", x.count(5), totals[place - 1]);
        }
        c.due("it is done", x.step(1), LoopMemo.NOT_POSSIBLE);
    }

    private static void totalsBothWays(Check c) {
        LoopMemo x = rows("1:1,2:2,3:3");
        for (int place = 0; place <= 3; place++) {
            c.due("by answers, at " + place, x.total(0), 230);
            c.due("by rows, at " + place, x.total(1), 230);
            x.step(1);
        }
    }

    private static void otherBoundOrOrder(Check c) {
        LoopMemo x = rows("1:1,2:1,1:1,3:1,2:2,1:9,4:1");
        c.due("no bound to speak of", x.ifBound(60, 0), 27);
        c.due("a narrow bound", x.ifBound(7, 0), 37);
        x.set(LoopMemo.BOUND, 7);
        c.due("as it is", x.ifOrdered(0), 37);
        c.due("by rising keys", x.ifOrdered(1), 27);
        c.due("the last one first", x.ifOrdered(2), 37);
    }

    private static void leastBoundAsGood(Check c) {
        LoopMemo x = rows("1:1,2:1,1:1,3:1,2:2,1:9,4:1");
        c.due("the least bound", x.leastBound(), 10);
        c.due("it is as good as any", x.ifBound(10, 0), x.ifBound(60, 0));
        c.due("1 less costs more", x.ifBound(9, 0) > x.ifBound(10, 0) ? 1 : 0, 1);
    }

    private static void rowsAndDeedsOfTexts(Check c) {
        LoopMemo x = new LoopMemo();
        Check.type(x, "1:10,2:x");
        c.due("the place of the fault", x.fault(0), 7);
        Check.type(x, "1:10,2:20");
        c.due("the rows", x.fill(false), 2);
        Check.type(x, "s1;s21");
        c.due("the place of the fault", x.fault(1), 5);
        Check.type(x, "s1;+3:3;s20;s1");
        c.due("the deeds", x.carryOut(), 3);
        c.due("the reason of the stop", x.why(0), LoopMemo.NOT_POSSIBLE);
        c.due("its place", x.why(2), 12);
    }

    private static void undoAndASnapshot(Check c) {
        LoopMemo x = rows("1:1");
        x.step(1);
        x.save();
        x.forget();
        x.drop(true, 0);
        c.due("undo", x.undo(), 3);
        c.due("inner rows", x.count(1), 4);
        c.due("what is remembered", x.count(2), 0);
        c.due("restore", x.restore(), 1);
        c.due("the total", x.count(5), 10);
    }

    private static void allCallsAnswer(Check c) {
        LoopMemo x = new LoopMemo();
        for (int call = 1; call <= CALLS - 12; call++) {
            c.due("set, call " + call, x.set(LoopMemo.LOW, call % 2), 0);
        }
        c.due("call 501", x.add(true, 1, 10), 0);
        c.due("call 502", x.add(false, 1, 10), 0);
        c.due("call 503", x.step(1), 3);
        c.due("call 504", x.save(), 1);
        c.due("call 505", x.drop(true, 0), 0);
        c.due("call 506", x.undo(), 3);
        c.due("call 507", x.restore(), 1);
        c.due("call 508", x.append('r'), 1);
        c.due("call 509", x.carryOut(), 1);
        c.due("call 510", x.count(19), 4);
        c.due("call 511", x.step(1), 1);
        c.due("call 512", x.count(5), 100);
    }

    /** LANGUAGE.md, rule 7, still binds what is free: no call throws, and each one ends. */
    private static void laterCallsEnd(Check c) {
        LoopMemo x = new LoopMemo();
        long drawn = 1;
        int ended = 0;
        for (int call = 1; call <= CALLS + LATER_CALLS; call++) {
            drawn = drawn * 6364136223846793005L + 1442695040888963407L;
            int number = (int) (drawn >>> 33);
            anyCall(x, number % 25, number / 25 % 12 - 1, number / 300 % 102 - 1);
            ended++;
        }
        c.due("the calls that ended", ended, CALLS + LATER_CALLS);
    }

    private static void anyCall(LoopMemo x, int call, int small, int large) {
        boolean inner = large % 2 == 0;
        switch (call) {
            case 0: x.add(inner, small, large); break;
            case 1: x.drop(inner, small); break;
            case 2: x.change(small, large % 11, large); break;
            case 3: x.step(small); break;
            case 4: x.again(); break;
            case 5: x.forget(); break;
            case 6: x.set(small % 6, large); break;
            case 7: x.append("0123456789:;,+-sr".charAt(Math.floorMod(large, 17))); break;
            case 8: x.clear(); break;
            case 9: x.fault(small); break;
            case 10: Check.type(x, "1:10,2:20"); x.fill(inner); break;
            case 11: Check.type(x, "+3:30;s2;-1;r;s4"); x.carryOut(); break;
            case 12: x.why(small); break;
            case 13: x.row(inner, small, large % 4); break;
            case 14: x.answer(small, large % 5); break;
            case 15: x.remembered(small, large % 7); break;
            case 16: x.count(large); break;
            case 17: x.total(small); break;
            case 18: x.rate(); break;
            case 19: x.ifBound(large, small); break;
            case 20: x.ifOrdered(small); break;
            case 21: x.leastBound(); break;
            case 22: x.undo(); break;
            case 23: x.save(); break;
            default: x.restore(); break;
        }
    }
}
