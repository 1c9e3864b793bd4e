/** A test for each sentence of 'The loop' and of promises 5, 6 and 19 to 23. */
final class LoopEdges {
    private static final int[] FAR = {Integer.MIN_VALUE, -100, Integer.MAX_VALUE};

    private LoopEdges() {
    }

    static void all(Sentences s) {
        loop(s);
        totals(s);
        whatWouldBe(s);
    }

    private static void loop(Sentences s) {
        s.section("The loop");
        s.holds("The loop has a place, 0 at first: how many rows of the outer table it has done.",
                LoopEdges::placeIsWhatIsDone);
        s.holds("A step of the loop takes the next outer row, looks the answer for its key up, and adds, to the total, "
                + "the value of the outer row times the sum of the answer.", LoopEdges::stepAddsAProduct);
        s.holds("The loop is done, if its place is the number of outer rows.", LoopEdges::doneAtTheEnd);
        s.holds("If an outer row that the loop has done goes, its place is 1 less.", LoopEdges::doneRowGoes);

        s.section("Promise 5: step");
        s.holds("int step(int steps): Makes steps of the loop, until so many are made, or it is done.",
                LoopEdges::stepsUntilDone);
        s.holds("steps: 1 to 20", LoopEdges::stepTakes1To20);
        s.holds("Returns what they cost; INVALID_ARGUMENT;", LoopEdges::stepReturnsTheCost);
        s.holds("NOT_POSSIBLE if the loop is done.", LoopEdges::stepOfADoneLoop);

        s.section("Promise 6: again");
        s.holds("int again(): Begins the loop again: its place and the total are 0;", LoopEdges::againAtPlace0);
        s.holds("what is remembered stays.", LoopEdges::againKeepsAnswers);
        s.holds("Returns the total that it had.", LoopEdges::againReturnsTheTotal);
    }

    private static void totals(Sentences s) {
        s.section("Promise 19: total");
        s.holds("int total(int way): Returns the total of the whole loop.", LoopEdges::totalOfTheWholeLoop);
        s.holds("way: 0: told by the answers that are remembered, where there are some, and found elsewhere;",
                LoopEdges::totalByAnswers);
        s.holds("1: told by going through the inner table for each outer row", LoopEdges::totalByRows);
        s.holds("Returns the total that the loop would have, done from its beginning with the rows of now (the same "
                + "for both); INVALID_ARGUMENT.", LoopEdges::totalOfNow);

        s.section("Promise 20: rate");
        s.holds("double rate(): Returns how often a look is a hit.", LoopEdges::rateCountsLooksAlone);
        s.holds("Returns the hits so far, as a double, divided by the hits and misses;", LoopEdges::rateDivides);
        s.holds("0.0 without any.", LoopEdges::rateWithoutLooks);
    }

    private static void whatWouldBe(Sentences s) {
        s.section("Promise 21: ifBound");
        s.holds("int ifBound(int bound, int what): Tells what the rest of the loop would bring, with another bound "
                + "from now on", LoopEdges::boundOfTheRest);
        s.holds("(by set(), and then steps to the end).", LoopEdges::boundAsBySet);
        s.holds("bound: 0 to 60", LoopEdges::boundTakes0To60);
        s.holds("what: 0: its cost; 1: hits; 2: misses;", LoopEdges::boundTellsCostAndLooks);
        s.holds("3: answers thrown out to make room in it (also by the change of the bound)",
                LoopEdges::boundTellsWhatIsThrownOut);
        s.holds("Returns the number; INVALID_ARGUMENT.", LoopEdges::boundTakesWhats);

        s.section("Promise 22: ifOrdered");
        s.holds("int ifOrdered(int order): Tells what the rest of the loop would cost, if the outer rows that are left "
                + "for it came in another order.", LoopEdges::orderOfTheRest);
        s.holds("order: 0: as they are;", LoopEdges::orderAsTheyAre);
        s.holds("1: by rising keys (of the same key as they are);", LoopEdges::orderByKeys);
        s.holds("2: the last one first", LoopEdges::orderFromTheLast);
        s.holds("Returns the cost; INVALID_ARGUMENT.", LoopEdges::orderTakes0To2);

        s.section("Promise 23: leastBound");
        s.holds("int leastBound(): Finds the least bound that is as good as any.", LoopEdges::leastOfEquallyGood);
        s.holds("Returns the least bound, 0 to 60, with which ifBound(.., 0) is as low as with any.",
                LoopEdges::leastOfAll);
    }

    /** An outer row for each digit, whose value is 1; each answer weighs 2 as long as there are no inner rows. */
    private static LoopMemo rows(int bound, String keys) {
        LoopMemo x = new LoopMemo();
        x.set(LoopMemo.BOUND, bound);
        for (int i = 0; i < keys.length(); i++) {
            x.add(false, keys.charAt(i) - '0', 1);
        }
        return x;
    }

    private static void placeIsWhatIsDone(Check c) {
        LoopMemo x = new LoopMemo();
        c.due("the place of a new loop", x.count(4), 0);
        for (int i = 0; i < 20; i++) {
            x.add(false, i % 10, i);
            c.due("the place, with rows that are not done", x.count(4), 0);
        }
        for (int place = 1; place <= 20; place++) {
            x.step(1);
            c.due("the place behind a step", x.count(4), place);
        }
        x.step(1);
        c.due("the place of a loop that is done", x.count(4), 20);
    }

    private static void stepAddsAProduct(Check c) {
        LoopMemo x = new LoopMemo();
        Check.addRows(x, true, "1:10,1:5,2:0,3:99");
        Check.addRows(x, false, "1:2,4:50,2:50,3:0,1:3,3:99");
        int[] totals = {30, 30, 30, 30, 75, 75 + 9801};
        int[] keys = {1, 4, 2, 3, 1, 3};
        for (int i = 0; i < totals.length; i++) {
            int looks = x.count(6) + x.count(7);
            x.step(1);
            c.due("the total behind step " + i, x.count(5), totals[i]);
            c.due("looks of step " + i, x.count(6) + x.count(7) - looks, 1);
            c.due("the answer of step " + i + " was looked up", x.remembered(keys[i], 4), i < 4 ? 1 : 2);
        }
        for (int key = 0; key <= 9; key++) {
            LoopMemo one = new LoopMemo();
            one.add(true, key, 10);
            one.add(false, key, 2);
            one.add(false, key, 3);
            c.due("a miss for the key " + key, one.step(1), 3);
            c.due("the total with the key " + key, one.count(5), 20);
            c.due("a hit for the key " + key, one.step(1), 1);
            c.due("the total with the key " + key, one.count(5), 50);
        }
        LoopMemo heavy = new LoopMemo();
        heavy.set(LoopMemo.BOUND, 0);
        Check.addRows(heavy, true, "1:10,1:5");
        Check.addRows(heavy, false, "1:2");
        heavy.step(1);
        c.due("an answer that is too heavy counts for the total", heavy.count(5), 30);
    }

    private static void doneAtTheEnd(Check c) {
        LoopMemo x = new LoopMemo();
        c.due("no outer rows: done", x.step(1), LoopMemo.NOT_POSSIBLE);
        x.add(true, 1, 1);
        c.due("inner rows alone: done", x.step(1), LoopMemo.NOT_POSSIBLE);
        x.add(false, 1, 1);
        c.due("one row: not done", x.step(1), 3);
        c.due("place 1 of 1: done", x.step(1), LoopMemo.NOT_POSSIBLE);
        x.add(false, 1, 1);
        c.due("place 1 of 2: not done", x.step(1), 1);
        x.add(false, 1, 1);
        x.drop(false, 2);
        c.due("the row that was left went: done", x.step(1), LoopMemo.NOT_POSSIBLE);
        x.drop(false, 0);
        c.due("a row that was done went: still done", x.step(1), LoopMemo.NOT_POSSIBLE);
        x.again();
        c.due("begun again: not done", x.step(1), 1);
    }

    private static void doneRowGoes(Check c) {
        for (int place = 0; place <= 5; place++) {
            for (int row = 0; row < 5; row++) {
                LoopMemo x = rows(12, "12345");
                for (int i = 0; i < place; i++) {
                    x.step(1);
                }
                x.drop(false, row);
                String at = "place " + place + ", row " + row + " went: ";
                c.due(at + "the place", x.count(4), row < place ? place - 1 : place);
                c.due(at + "misses", x.count(7), place);
            }
        }
        LoopMemo y = rows(12, "123");
        y.add(true, 1, 7);
        y.step(2);
        y.drop(true, 0);
        c.due("an inner row went: the place", y.count(4), 2);
        c.due("an inner row went: the total", y.count(5), 7);
        y.drop(false, 0);
        c.due("an outer row went: the total stays", y.count(5), 7);
    }

    private static void stepsUntilDone(Check c) {
        LoopMemo x = rows(20, "01234567890123456789");
        c.due("step(1)", x.step(1), 2);
        c.due("one is made", x.count(4), 1);
        c.due("step(18)", x.step(18), 18 + 9);
        c.due("eighteen are made", x.count(4), 19);
        c.due("step(20), one is left", x.step(20), 1);
        c.due("one is made", x.count(4), 20);
        x.again();
        c.due("step(20) of 20", x.step(20), 20);
        c.due("all are made", x.count(4), 20);
        LoopMemo y = rows(20, "123");
        c.due("step(3) of 3", y.step(3), 6);
        c.due("all are made", y.count(4), 3);
    }

    private static void stepTakes1To20(Check c) {
        LoopMemo x = rows(12, "11111111111111111111");
        c.due("step(0)", x.step(0), LoopMemo.INVALID_ARGUMENT);
        c.due("step(-1)", x.step(-1), LoopMemo.INVALID_ARGUMENT);
        c.due("step(21)", x.step(21), LoopMemo.INVALID_ARGUMENT);
        for (int steps : FAR) {
            c.due("step(" + steps + ")", x.step(steps), LoopMemo.INVALID_ARGUMENT);
        }
        c.due("no step is made", x.count(4), 0);
        c.due("step(1)", x.step(1), 2);
        x.again();
        c.due("step(20)", x.step(20), 20);
    }

    private static void stepReturnsTheCost(Check c) {
        LoopMemo x = rows(12, "112");
        Check.addRows(x, true, "1:1,2:1,3:1");
        c.due("a miss", x.step(1), 5);
        c.due("a hit", x.step(1), 1);
        c.due("a wrong number of steps", x.step(0), LoopMemo.INVALID_ARGUMENT);
        c.due("a miss", x.step(1), 5);
        x.again();
        c.due("three hits", x.step(3), 3);
        c.due("all together", x.count(8), 14);
        LoopMemo y = new LoopMemo();
        for (int i = 0; i < 20; i++) {
            y.add(true, 1, 99);
            y.add(false, 1, 99);
        }
        c.due("the dearest steps", y.step(20), 440);
    }

    private static void stepOfADoneLoop(Check c) {
        LoopMemo x = new LoopMemo();
        c.due("step(20) without rows", x.step(20), LoopMemo.NOT_POSSIBLE);
        x.add(false, 1, 1);
        x.step(20);
        c.due("step(1) behind the last row", x.step(1), LoopMemo.NOT_POSSIBLE);
        c.due("step(20) behind the last row", x.step(20), LoopMemo.NOT_POSSIBLE);
        c.due("step(0) behind the last row", x.step(0), LoopMemo.INVALID_ARGUMENT);
        c.due("step(21) behind the last row", x.step(21), LoopMemo.INVALID_ARGUMENT);
        c.due("looks", x.count(6) + x.count(7), 1);
    }

    private static void againAtPlace0(Check c) {
        LoopMemo x = rows(12, "123");
        Check.addRows(x, true, "1:10,2:20,3:30");
        x.again();
        c.due("the place of a loop that has done nothing", x.count(4), 0);
        x.step(2);
        x.again();
        c.due("the place from the middle", x.count(4), 0);
        c.due("the total from the middle", x.count(5), 0);
        x.step(20);
        c.due("the total of all", x.count(5), 60);
        x.again();
        c.due("the place from the end", x.count(4), 0);
        c.due("the total from the end", x.count(5), 0);
        x.step(1);
        c.due("it begins with the first row", x.count(5), 10);
    }

    private static void againKeepsAnswers(Check c) {
        LoopMemo x = rows(12, "1213");
        x.step(4);
        x.again();
        c.due("three are remembered", x.count(2), 3);
        c.due("1 is looked up twice", x.remembered(1, 4), 2);
        c.due("2 is the first to go", x.remembered(2, 5), 0);
        c.due("hits so far", x.count(6), 1);
        c.due("misses so far", x.count(7), 3);
        c.due("cost so far", x.count(8), 7);
        c.due("all are hits now", x.step(4), 4);
    }

    private static void againReturnsTheTotal(Check c) {
        LoopMemo x = new LoopMemo();
        c.due("without rows", x.again(), 0);
        for (int i = 0; i < 20; i++) {
            x.add(true, 1, 99);
            x.add(false, 1, 99);
        }
        x.step(1);
        c.due("of one row", x.again(), 99 * 1980);
        x.step(20);
        c.due("the greatest total of one loop", x.again(), 20 * 99 * 1980);
        c.due("it is 0 then", x.again(), 0);
    }

    private static void totalOfTheWholeLoop(Check c) {
        for (int way = 0; way <= 1; way++) {
            LoopMemo x = new LoopMemo();
            c.due("way " + way + " without rows", x.total(way), 0);
            x.add(false, 1, 99);
            c.due("way " + way + " without inner rows", x.total(way), 0);
            x.add(true, 1, 99);
            c.due("way " + way + " with one of each", x.total(way), 9801);
            x.drop(false, 0);
            c.due("way " + way + " without outer rows", x.total(way), 0);
            LoopMemo y = new LoopMemo();
            for (int i = 0; i < 20; i++) {
                y.add(true, 9, 99);
                y.add(false, 9, 99);
            }
            c.due("way " + way + " with full tables", y.total(way), 20 * 99 * 1980);
            y.step(7);
            c.due("way " + way + " in the middle", y.total(way), 20 * 99 * 1980);
        }
    }

    private static void totalByAnswers(Check c) {
        LoopMemo x = rows(12, "12");
        Check.addRows(x, true, "1:10,2:20");
        c.due("none is remembered", x.total(0), 30);
        x.step(1);
        c.due("one is remembered", x.total(0), 30);
        x.step(1);
        c.due("both are remembered", x.total(0), 30);
        c.due("no look is made", x.count(6) + x.count(7), 2);
        x.set(LoopMemo.KEEPING, 2);
        x.again();
        x.step(2);
        x.change(0, 2, 99);
        c.due("both are mended", x.total(0), 119);
        x.set(LoopMemo.BOUND, 0);
        c.due("none has room", x.total(0), 119);
        for (int key = 0; key <= 9; key++) {
            LoopMemo one = new LoopMemo();
            one.add(false, key, 2);
            Check.addRows(one, true, key + ":10," + key + ":20");
            one.step(1);
            c.due("two rows of the key " + key, one.total(0), 60);
            one.drop(true, 1);
            c.due("the last row of the key " + key + " went", one.total(0), 20);
            one.drop(false, 0);
            c.due("the outer row of the key " + key + " went", one.total(0), 0);
        }
        c.due("no look is made", x.count(6) + x.count(7), 4);
    }

    private static void totalByRows(Check c) {
        LoopMemo x = rows(12, "112");
        Check.addRows(x, true, "1:9,1:10,2:50,2:51");
        x.set(LoopMemo.LOW, 10);
        x.set(LoopMemo.HIGH, 50);
        c.due("the values on the edges of the band", x.total(1), 70);
        x.set(LoopMemo.LOW, 9);
        c.due("LOW is 1 less", x.total(1), 88);
        x.set(LoopMemo.HIGH, 51);
        c.due("HIGH is 1 more", x.total(1), 139);
        x.set(LoopMemo.LOW, 52);
        c.due("LOW is above HIGH", x.total(1), 0);
        c.due("no look is made", x.count(6) + x.count(7), 0);
        for (int key = 0; key <= 9; key++) {
            LoopMemo one = new LoopMemo();
            one.add(false, key, 2);
            Check.addRows(one, true, key + ":10," + key + ":20");
            c.due("two rows of the key " + key, one.total(1), 60);
            one.drop(true, 1);
            c.due("the last row of the key " + key + " went", one.total(1), 20);
            one.drop(true, 0);
            c.due("both rows of the key " + key + " went", one.total(1), 0);
        }
    }

    private static void totalOfNow(Check c) {
        for (int keeping = 0; keeping <= 2; keeping++) {
            LoopMemo x = rows(12, "1213");
            x.set(LoopMemo.KEEPING, keeping);
            Check.addRows(x, true, "1:10,2:20,3:30");
            x.step(3);
            c.due("the total so far", x.count(5), 40);
            x.change(1, 1, 1);
            x.drop(false, 0);
            for (int way = 0; way <= 1; way++) {
                c.due("way " + way + ", 2 1 3 with 11 for 1 and 0 for 2", x.total(way), 41);
            }
            c.due("the total so far stays", x.count(5), 40);
            x.again();
            x.step(20);
            c.due("the loop, done from its beginning", x.count(5), 41);
        }
        LoopMemo x = rows(12, "1");
        c.due("total(-1)", x.total(-1), LoopMemo.INVALID_ARGUMENT);
        c.due("total(2)", x.total(2), LoopMemo.INVALID_ARGUMENT);
        for (int way : FAR) {
            c.due("total(" + way + ")", x.total(way), LoopMemo.INVALID_ARGUMENT);
        }
    }

    private static void rateCountsLooksAlone(Check c) {
        LoopMemo x = rows(12, "11");
        x.step(2);
        x.total(0);
        x.answer(1, 2);
        x.remembered(1, 2);
        x.ifBound(60, 1);
        x.leastBound();
        c.dueDouble("1 in 2, whatever is asked", x.rate(), 0.5);
        x.set(LoopMemo.KEEPING, 2);
        x.again();
        x.step(1);
        x.add(true, 1, 1);
        c.dueDouble("1 in 3, mended", x.rate(), 1.0 / 3.0);
        x.undo();
        x.undo();
        c.dueDouble("1 in 2, undone", x.rate(), 0.5);
    }

    private static void rateDivides(Check c) {
        LoopMemo x = rows(12, "11111111111111111111");
        for (int looks = 1; looks <= 20; looks++) {
            x.step(1);
            c.dueDouble("looks " + looks + ", all but the first are hits", x.rate(), (double) (looks - 1) / looks);
        }
        x.again();
        c.dueDouble("begun again", x.rate(), 19.0 / 20.0);
        x.forget();
        c.dueDouble("forgotten", x.rate(), 19.0 / 20.0);
        x.step(2);
        c.dueDouble("20 in 22", x.rate(), 20.0 / 22.0);
    }

    private static void rateWithoutLooks(Check c) {
        LoopMemo x = new LoopMemo();
        c.dueDouble("a new object", x.rate(), 0.0);
        c.due("it is no -0.0", 1.0 / x.rate() > 0.0 ? 1 : 0, 1);
        x.step(1);
        c.dueDouble("a refused step", x.rate(), 0.0);
        x.add(false, 1, 1);
        c.dueDouble("a row", x.rate(), 0.0);
        x.step(1);
        c.dueDouble("a miss", x.rate(), 0.0);
        x.undo();
        c.dueDouble("an undone miss", x.rate(), 0.0);
    }

    private static void dueBrought(Check c, String at, LoopMemo x, int bound, int... want) {
        for (int what = 0; what <= 3; what++) {
            c.due(at + ": ifBound(" + bound + ", " + what + ")", x.ifBound(bound, what), want[what]);
        }
    }

    private static void boundOfTheRest(Check c) {
        LoopMemo x = rows(12, "1212");
        dueBrought(c, "all four are left", x, 4, 6, 2, 2, 0);
        dueBrought(c, "all four are left", x, 2, 8, 0, 4, 3);
        x.step(2);
        dueBrought(c, "two are left", x, 4, 2, 2, 0, 0);
        dueBrought(c, "two are left", x, 3, 4, 0, 2, 3);
        x.step(1);
        dueBrought(c, "one is left", x, 2, 2, 0, 1, 2);
        x.step(1);
        dueBrought(c, "none is left", x, 4, 0, 0, 0, 0);
        dueBrought(c, "none is left", x, 3, 0, 0, 0, 1);
        dueBrought(c, "none is left", x, 0, 0, 0, 0, 2);
        dueBrought(c, "no rows", new LoopMemo(), 0, 0, 0, 0, 0);
        c.due("nothing is changed: remembered", x.count(2), 2);
        c.due("nothing is changed: BOUND", x.count(13), 12);
        c.due("nothing is changed: thrown out", x.count(9), 0);
    }

    private static void boundAsBySet(Check c) {
        for (int rule = 0; rule <= 2; rule++) {
            for (int bound = 0; bound <= 60; bound++) {
                LoopMemo x = rows(7, "12312415261");
                x.set(LoopMemo.RULE, rule);
                Check.addRows(x, true, "1:1,1:1,2:1");
                x.step(4);
                int[] told = {x.ifBound(bound, 0), x.ifBound(bound, 1), x.ifBound(bound, 2), x.ifBound(bound, 3)};
                int[] ahead = {x.count(8), x.count(6), x.count(7), x.count(9)};
                x.set(LoopMemo.BOUND, bound);
                x.step(20);
                int[] behind = {x.count(8), x.count(6), x.count(7), x.count(9)};
                for (int what = 0; what <= 3; what++) {
                    c.due("rule " + rule + ", ifBound(" + bound + ", " + what + ")", told[what],
                            behind[what] - ahead[what]);
                }
            }
        }
    }

    private static void boundTakes0To60(Check c) {
        LoopMemo x = rows(12, "11");
        for (int what = 0; what <= 3; what++) {
            c.due("ifBound(-1, " + what + ")", x.ifBound(-1, what), LoopMemo.INVALID_ARGUMENT);
            c.due("ifBound(61, " + what + ")", x.ifBound(61, what), LoopMemo.INVALID_ARGUMENT);
            for (int bound : FAR) {
                c.due("ifBound(" + bound + ", " + what + ")", x.ifBound(bound, what), LoopMemo.INVALID_ARGUMENT);
            }
        }
        c.due("ifBound(0, 0)", x.ifBound(0, 0), 4);
        c.due("ifBound(1, 0)", x.ifBound(1, 0), 4);
        c.due("ifBound(2, 0)", x.ifBound(2, 0), 3);
        c.due("ifBound(60, 0)", x.ifBound(60, 0), 3);
    }

    private static void boundTellsCostAndLooks(Check c) {
        LoopMemo x = rows(12, "1112");
        Check.addRows(x, true, "1:1,1:1,1:1");
        dueBrought(c, "as heavy as 1", x, 5, 12, 2, 2, 1);
        dueBrought(c, "1 less", x, 4, 20, 0, 4, 0);
        dueBrought(c, "as heavy as both", x, 7, 12, 2, 2, 0);
        x.step(2);
        dueBrought(c, "what was so far is not counted", x, 7, 6, 1, 1, 0);
    }

    private static void boundTellsWhatIsThrownOut(Check c) {
        LoopMemo x = rows(12, "1234");
        x.step(3);
        dueBrought(c, "room for all", x, 8, 2, 0, 1, 0);
        dueBrought(c, "one goes in the rest", x, 7, 2, 0, 1, 1);
        dueBrought(c, "one goes in the rest", x, 6, 2, 0, 1, 1);
        dueBrought(c, "one goes at once, one in the rest", x, 5, 2, 0, 1, 2);
        dueBrought(c, "all go at once, and 4 is too heavy", x, 1, 2, 0, 1, 3);
        x.forget();
        dueBrought(c, "forgotten ones are not counted", x, 0, 2, 0, 1, 0);
        LoopMemo y = rows(4, "121");
        y.set(LoopMemo.KEEPING, 2);
        y.step(2);
        y.add(true, 2, 1);
        dueBrought(c, "a mended answer above a bound that stays: by set(), 1 and 2 go", y, 4, 3, 0, 1, 2);
        dueBrought(c, "a bound that has room for it", y, 5, 1, 1, 0, 0);
    }

    private static void boundTakesWhats(Check c) {
        LoopMemo x = rows(12, "11");
        c.due("ifBound(5, -1)", x.ifBound(5, -1), LoopMemo.INVALID_ARGUMENT);
        c.due("ifBound(5, 4)", x.ifBound(5, 4), LoopMemo.INVALID_ARGUMENT);
        for (int what : FAR) {
            c.due("ifBound(5, " + what + ")", x.ifBound(5, what), LoopMemo.INVALID_ARGUMENT);
        }
        c.due("a loop that is done, ifBound(5, 4)", new LoopMemo().ifBound(5, 4), LoopMemo.INVALID_ARGUMENT);
        c.due("the least", x.ifBound(5, 0), 3);
        c.due("the greatest", x.ifBound(5, 3), 0);
    }

    private static void orderOfTheRest(Check c) {
        LoopMemo x = rows(2, "9191");
        c.due("1 1 9 9", x.ifOrdered(1), 6);
        x.step(1);
        c.due("1 9 1 behind 9", x.ifOrdered(0), 6);
        c.due("1 1 9 behind 9", x.ifOrdered(1), 5);
        x.step(1);
        c.due("9 1 behind 1", x.ifOrdered(0), 4);
        c.due("1 9 behind 1", x.ifOrdered(1), 3);
        c.due("1 9 behind 1, the last one first", x.ifOrdered(2), 3);
        LoopMemo sorted = rows(2, "591");
        sorted.step(1);
        c.due("1 9 behind 5", sorted.ifOrdered(1), 4);
        LoopMemo turned = rows(2, "1231");
        turned.step(1);
        c.due("1 3 2 behind 1", turned.ifOrdered(2), 5);
        x.step(2);
        for (int order = 0; order <= 2; order++) {
            c.due("none is left: ifOrdered(" + order + ")", x.ifOrdered(order), 0);
            c.due("no rows: ifOrdered(" + order + ")", new LoopMemo().ifOrdered(order), 0);
        }
        String keys = "9191";
        for (int row = 0; row < 4; row++) {
            c.due("nothing is changed: row " + row, x.row(false, row, 0), keys.charAt(row) - '0');
        }
        c.due("nothing is changed: cost", x.count(8), 8);
    }

    private static void orderAsTheyAre(Check c) {
        LoopMemo x = rows(2, "1221133");
        c.due("1 2 2 1 1 3 3", x.ifOrdered(0), 2 + 2 + 1 + 2 + 1 + 2 + 1);
        c.due("it is what the steps cost", x.step(20), 11);
        LoopMemo mended = rows(4, "121");
        mended.set(LoopMemo.KEEPING, 2);
        mended.step(2);
        mended.add(true, 2, 1);
        c.due("nothing is thrown out ahead of it", mended.ifOrdered(0), 1);
    }

    private static void orderByKeys(Check c) {
        LoopMemo x = rows(2, "30213021");
        c.due("as they are", x.ifOrdered(0), 16);
        c.due("0 0 1 1 2 2 3 3", x.ifOrdered(1), 12);
        LoopMemo y = rows(4, "12345123450987609876");
        c.due("20 rows, as they are", y.ifOrdered(0), 40);
        c.due("20 rows, each key twice", y.ifOrdered(1), 30);
        LoopMemo z = rows(4, "2919");
        z.step(2);
        c.due("2 and 9 are remembered: 1 9 goes on with 9", z.ifOrdered(1), 3);
        LoopMemo w = rows(2, "0999");
        w.add(false, 0, 1);
        w.step(1);
        c.due("0 is remembered, it comes first: 0 9 9 9", w.ifOrdered(1), 1 + 2 + 1 + 1);
        c.due("as they are: 9 9 9 0", w.ifOrdered(0), 2 + 1 + 1 + 2);
        LoopMemo done = rows(2, "591");
        done.step(1);
        c.due("5 is done and stays ahead: 1 9 behind it", done.ifOrdered(1), 4);
    }

    private static void orderFromTheLast(Check c) {
        LoopMemo x = rows(2, "1232");
        x.step(1);
        x.add(false, 1, 1);
        c.due("as they are: 2 3 2 1", x.ifOrdered(0), 8);
        c.due("the last one first: 1 2 3 2", x.ifOrdered(2), 7);
        LoopMemo odd = rows(2, "01233");
        odd.add(false, 0, 1);
        odd.step(1);
        c.due("five rows, the last one first: 0 3 3 2 1", odd.ifOrdered(2), 1 + 2 + 1 + 2 + 2);
        c.due("five rows, by keys: 0 1 2 3 3", odd.ifOrdered(1), 1 + 2 + 2 + 2 + 1);
        LoopMemo one = rows(2, "12");
        one.step(1);
        c.due("one row", one.ifOrdered(2), 2);
        c.due("four rows: 1 3 2 1", rows(2, "1231").ifOrdered(2), 8);
        c.due("five rows: 1 4 3 2 1", rows(2, "12341").ifOrdered(2), 10);
        c.due("five rows: 1 1 2 3 4", rows(2, "43211").ifOrdered(2), 9);
    }

    private static void orderTakes0To2(Check c) {
        LoopMemo x = rows(12, "11");
        c.due("ifOrdered(-1)", x.ifOrdered(-1), LoopMemo.INVALID_ARGUMENT);
        c.due("ifOrdered(3)", x.ifOrdered(3), LoopMemo.INVALID_ARGUMENT);
        for (int order : FAR) {
            c.due("ifOrdered(" + order + ")", x.ifOrdered(order), LoopMemo.INVALID_ARGUMENT);
        }
        c.due("a loop that is done, ifOrdered(3)", new LoopMemo().ifOrdered(3), LoopMemo.INVALID_ARGUMENT);
        c.due("ifOrdered(0)", x.ifOrdered(0), 3);
        c.due("ifOrdered(2)", x.ifOrdered(2), 3);
    }

    private static void leastOfEquallyGood(Check c) {
        c.due("no rows", new LoopMemo().leastBound(), 0);
        c.due("no key comes twice", rows(12, "1234").leastBound(), 0);
        c.due("a key comes twice, one behind the other", rows(12, "1122").leastBound(), 2);
        c.due("a key comes twice, with another between", rows(12, "121").leastBound(), 4);
        LoopMemo x = rows(0, "121");
        x.add(true, 1, 1);
        c.due("1 has a row; BOUND itself is 0", x.leastBound(), 5);
        LoopMemo done = rows(12, "121");
        done.step(20);
        c.due("the loop is done", done.leastBound(), 0);
        c.due("nothing is changed: remembered", done.count(2), 2);
        c.due("nothing is changed: BOUND", done.count(13), 12);
    }

    private static void leastOfAll(Check c) {
        LoopMemo wide = new LoopMemo();
        for (int i = 0; i < 20; i++) {
            wide.add(true, i % 10, 1);
            wide.add(false, i % 10, 1);
        }
        c.due("all keys twice, each with two rows", wide.leastBound(), 40);
        c.due("its cost", wide.ifBound(40, 0), 230);
        c.due("1 less costs more", wide.ifBound(39, 0) > 230 ? 1 : 0, 1);
        c.due("60 costs as much", wide.ifBound(60, 0), 230);
        LoopMemo worse = rows(12, "13213");
        Check.addRows(worse, true, "2:1,2:1,2:1,2:1");
        c.due("with 3", worse.ifBound(3, 0), 30);
        c.due("with 4", worse.ifBound(4, 0), 20);
        c.due("with 6, which is worse", worse.ifBound(6, 0), 30);
        c.due("with 10", worse.ifBound(10, 0), 20);
        c.due("the lesser of 4 and 10", worse.leastBound(), 4);
        LoopMemo warm = rows(60, "123321");
        warm.step(3);
        c.due("all that is needed is remembered", warm.ifBound(60, 0), 3);
        c.due("with 6", warm.ifBound(6, 0), 3);
        c.due("the least bound that keeps it", warm.leastBound(), 6);
        warm.step(1);
        c.due("2 1 are left, 3 was looked up last", warm.leastBound(), 6);
        warm.set(LoopMemo.RULE, 0);
        c.due("forgotten: 2 1 are left", warm.leastBound(), 0);
    }
}
