/** A test for each sentence of 'Answers', 'Changes under answers' and 'Settings', and of promises 7, 8, 16 and 17. */
final class AnswerEdges {
    private static final int[] HIGHEST = {60, 2, 2, 99, 99};
    private static final int[] FIRST = {12, 0, 0, 0, 99};
    private static final int[] FAR = {Integer.MIN_VALUE, -100, Integer.MAX_VALUE};

    private AnswerEdges() {
    }

    static void all(Sentences s) {
        answers(s);
        changesUnderAnswers(s);
        settings(s);
        promises(s);
    }

    private static void answers(Sentences s) {
        s.section("Answers");
        s.holds("The answer for a key are the rows of the inner table with this key and a value of LOW to HIGH, by "
                + "their numbers.", AnswerEdges::rowsOfTheBand);
        s.holds("Its weight is 2 and the number of its rows.", AnswerEdges::weightOfAnAnswer);
        s.holds("Its sum is the sum of the values of its rows.", AnswerEdges::sumOfAnAnswer);
        s.holds("To look an answer up: if an answer for the key is remembered, it is a hit, which costs 1.",
                AnswerEdges::hitCostsOne);
        s.holds("Otherwise it is a miss, which costs 2 and as much as the inner table has rows;",
                AnswerEdges::missCostsTheTable);
        s.holds("then the answer is remembered, unless its weight is above BOUND",
                AnswerEdges::rememberedUnlessAboveTheBound);
        s.holds("(it is too heavy then: nothing else is thrown out for it)", AnswerEdges::tooHeavyThrowsNothingOut);
        s.holds("When one is remembered, others are thrown out, one after the other, as long as the weights of all "
                + "that are remembered are together above BOUND; by the setting RULE:", AnswerEdges::roomIsMade);
        s.holds("0 the one that was looked up longest ago;", AnswerEdges::longestAgoGoes);
        s.holds("1 the one that was looked up least often since it was remembered", AnswerEdges::leastOftenGoes);
        s.holds("(its first time counts)", AnswerEdges::firstTimeCounts);
        s.holds("of several the one that was looked up longest ago;", AnswerEdges::ofSeveralLongestAgoGoes);
        s.holds("2 the one that was remembered longest ago.", AnswerEdges::rememberedLongestAgoGoes);
        s.holds("(The new one itself is not thrown out.)", AnswerEdges::newOneStays);
    }

    private static void changesUnderAnswers(Sentences s) {
        s.section("Changes under answers");
        s.holds("When rows of the inner table come, go, or change, what is remembered is kept true by the setting "
                + "KEEPING:", AnswerEdges::keptTrue);
        s.holds("0: the answers for the keys of the row, ahead of the change and behind it, are thrown out;",
                AnswerEdges::keepingThrowsTheKeysOut);
        s.holds("1: all answers are thrown out;", AnswerEdges::keepingThrowsAllOut);
        s.holds("2: the answers for these keys are mended: they become what they would be now",
                AnswerEdges::keepingMends);
        s.holds("(also if the weights are together above BOUND then;", AnswerEdges::mendedAboveTheBound);
        s.holds("that is seen to when the next answer is remembered);", AnswerEdges::nextOneMakesRoom);
        s.holds("they count as looked up and remembered when they were.", AnswerEdges::mendingIsNoLook);
        s.holds("Answers for other keys have the same rows still, under the numbers that these have now.",
                AnswerEdges::otherAnswersAreRenumbered);
        s.holds("When LOW, HIGH, KEEPING or RULE are set (also to the value that they have), all answers are thrown "
                + "out;", AnswerEdges::settingThrowsAllOut);
        s.holds("when BOUND is set, they are thrown out by the RULE until the weights together are not above it.",
                AnswerEdges::boundThrowsOut);
    }

    private static void settings(Sentences s) {
        s.section("Settings");
        s.holds("(In parentheses: range; first value.)", AnswerEdges::firstValues);
        s.holds("BOUND (0 to 60; 12)", c -> settingTakes(c, LoopMemo.BOUND));
        s.holds("RULE (0 to 2; 0)", c -> settingTakes(c, LoopMemo.RULE));
        s.holds("KEEPING (0 to 2; 0)", c -> settingTakes(c, LoopMemo.KEEPING));
        s.holds("LOW (0 to 99; 0)", c -> settingTakes(c, LoopMemo.LOW));
        s.holds("HIGH (0 to 99; 99)", c -> settingTakes(c, LoopMemo.HIGH));
        s.holds("With LOW above HIGH all answers are without rows.", AnswerEdges::lowAboveHigh);
    }

    private static void promises(Sentences s) {
        s.section("Promise 7: forget");
        s.holds("int forget(): Forgets all answers.", AnswerEdges::forgetsAll);
        s.holds("Returns how many were remembered.", AnswerEdges::forgetTellsHowMany);

        s.section("Promise 8: set");
        s.holds("int set(int what, int value): Changes a setting.", AnswerEdges::setChangesOne);
        s.holds("what: 0 to 4", AnswerEdges::setTakesWhats);
        s.holds("value: a value in its range", AnswerEdges::setTakesValues);
        s.holds("Returns how many answers are thrown out by that; INVALID_ARGUMENT.", AnswerEdges::setTellsHowMany);

        s.section("Promise 16: answer");
        s.holds("int answer(int key, int what): Returns a number of the answer for a key, as it would be found in the "
                + "inner table now.", AnswerEdges::answerIsOfNow);
        s.holds("key: 0 to 9", AnswerEdges::answerTakesKeys);
        s.holds("what: 0: how many rows it has; 1: its weight; 2: its sum; 3: its first row,",
                AnswerEdges::answerTells);
        s.holds("NOT_FOUND without rows", AnswerEdges::answerWithoutRows);
        s.holds("Returns the number; INVALID_ARGUMENT.", AnswerEdges::answerTakesWhats);

        s.section("Promise 17: remembered");
        s.holds("int remembered(int key, int what): Returns a number of the remembered answer for a key.",
                AnswerEdges::rememberedComesAndGoes);
        s.holds("key: 0 to 9", AnswerEdges::rememberedTakesKeys);
        s.holds("what: 0: how many rows it has; 1: its weight; 2: its sum; 3: its first row,",
                AnswerEdges::rememberedTells);
        s.holds("NOT_FOUND without rows;", AnswerEdges::rememberedWithoutRows);
        s.holds("4: how often it was looked up since it was remembered;", AnswerEdges::rememberedTellsLooks);
        s.holds("5: its place, from 0, in the order in which answers would be thrown out by the RULE of now",
                AnswerEdges::rememberedTellsPlaces);
        s.holds("Returns the number; INVALID_ARGUMENT; NOT_FOUND if none is remembered for it.",
                AnswerEdges::rememberedTakesWhats);
    }

    /** No inner rows, so that each answer weighs 2; an outer row for each digit, and all steps are made. */
    private static LoopMemo looked(int bound, int rule, String keys) {
        LoopMemo x = new LoopMemo();
        x.set(LoopMemo.BOUND, bound);
        x.set(LoopMemo.RULE, rule);
        look(x, keys);
        return x;
    }

    private static void look(LoopMemo x, String keys) {
        for (int i = 0; i < keys.length(); i++) {
            x.add(false, keys.charAt(i) - '0', 1);
        }
        x.step(20);
    }

    /** Inner rows 1:10, 2:20, 2:30, 3:40; answers for 1, 2, 3 and 4 are remembered, with weights 3, 4, 3 and 2. */
    private static LoopMemo warm(int keeping) {
        LoopMemo x = new LoopMemo();
        x.set(LoopMemo.KEEPING, keeping);
        Check.addRows(x, true, "1:10,2:20,2:30,3:40");
        look(x, "1234");
        return x;
    }

    private static void dueRemembered(Check c, String at, LoopMemo x, String keys) {
        StringBuilder held = new StringBuilder();
        for (int key = 0; key < 10; key++) {
            if (x.remembered(key, 4) > 0) {
                held.append(key);
            }
        }
        c.dueText(at + ": the keys that are remembered", held.toString(), keys);
        c.due(at + ": how many", x.count(2), keys.length());
    }

    private static void dueOrder(Check c, String at, LoopMemo x, String keys) {
        for (int key = 0; key < 10; key++) {
            int place = keys.indexOf('0' + key);
            c.due(at + ": the place of " + key, x.remembered(key, 5), place < 0 ? LoopMemo.NOT_FOUND : place);
        }
    }

    private static void rowsOfTheBand(Check c) {
        LoopMemo x = new LoopMemo();
        x.set(LoopMemo.LOW, 10);
        x.set(LoopMemo.HIGH, 50);
        Check.addRows(x, true, "1:9,2:30,1:50,1:51,1:30,1:10");
        c.due("rows", x.answer(1, 0), 3);
        c.due("sum", x.answer(1, 2), 90);
        c.due("the first one by number", x.answer(1, 3), 2);
        x.drop(true, 0);
        c.due("the first one by number, behind drop()", x.answer(1, 3), 1);
        x.change(4, 1, 9);
        c.due("rows, 1 below LOW is not one", x.answer(1, 0), 2);
        x.change(1, 1, 51);
        c.due("rows, 1 above HIGH is not one", x.answer(1, 0), 1);
        LoopMemo y = new LoopMemo();
        Check.addRows(y, true, "1:0,1:99");
        c.due("rows with the widest band", y.answer(1, 0), 2);
        y.set(LoopMemo.LOW, 1);
        c.due("rows with a LOW of 1", y.answer(1, 3), 1);
        y.set(LoopMemo.LOW, 0);
        y.set(LoopMemo.HIGH, 98);
        c.due("rows with a HIGH of 98", y.answer(1, 2), 0);
    }

    private static void weightOfAnAnswer(Check c) {
        LoopMemo x = new LoopMemo();
        x.set(LoopMemo.BOUND, 60);
        for (int rows = 0; rows <= 20; rows++) {
            c.due("the weight with rows: " + rows, x.answer(6, 1), 2 + rows);
            x.add(true, 6, rows);
        }
        look(x, "67");
        c.due("the weight of 20 rows, remembered", x.remembered(6, 1), 22);
        c.due("the weight without rows, remembered", x.remembered(7, 1), 2);
        c.due("together", x.count(3), 24);
    }

    private static void sumOfAnAnswer(Check c) {
        LoopMemo x = new LoopMemo();
        x.set(LoopMemo.BOUND, 60);
        for (int rows = 0; rows <= 20; rows++) {
            c.due("the sum with rows: " + rows, x.answer(6, 2), 99 * rows);
            x.add(true, 6, 99);
        }
        look(x, "67");
        c.due("the sum of 20 rows, remembered", x.remembered(6, 2), 1980);
        c.due("the sum without rows, remembered", x.remembered(7, 2), 0);
        x.change(0, 6, 0);
        c.due("the sum with a value of 0", x.answer(6, 2), 1881);
    }

    private static void hitCostsOne(Check c) {
        LoopMemo x = new LoopMemo();
        x.set(LoopMemo.BOUND, 22);
        for (int i = 0; i < 20; i++) {
            x.add(true, 6, 1);
        }
        look(x, "6");
        c.due("the cost of the miss", x.count(8), 22);
        c.due("hits", x.count(6), 0);
        x.again();
        c.due("step(1), a hit of 20 rows", x.step(1), 1);
        c.due("hits", x.count(6), 1);
        c.due("misses", x.count(7), 1);
        LoopMemo y = looked(12, 0, "11");
        c.due("a miss and a hit without rows", y.count(8), 3);
    }

    private static void missCostsTheTable(Check c) {
        LoopMemo x = new LoopMemo();
        x.add(false, 1, 1);
        c.due("with an empty table", x.step(1), 2);
        x.set(LoopMemo.LOW, 50);
        for (int rows = 1; rows <= 20; rows++) {
            x.add(true, rows % 10, 5 * (rows % 19));
            x.forget();
            x.again();
            c.due("with rows of all keys and values: " + rows, x.step(1), 2 + rows);
        }
        c.due("misses", x.count(7), 21);
        x.set(LoopMemo.BOUND, 0);
        x.again();
        c.due("too heavy", x.step(1), 22);
        x.again();
        c.due("too heavy once more", x.step(1), 22);
        c.due("no hit", x.count(6), 0);
    }

    private static void rememberedUnlessAboveTheBound(Check c) {
        for (int rows = 0; rows <= 20; rows++) {
            LoopMemo x = new LoopMemo();
            for (int i = 0; i < rows; i++) {
                x.add(true, 6, 1);
            }
            x.set(LoopMemo.BOUND, 1 + rows);
            look(x, "6");
            c.due("rows " + rows + ", a weight 1 above BOUND: rows remembered", x.remembered(6, 0), LoopMemo.NOT_FOUND);
            c.due("rows " + rows + ", a weight 1 above BOUND: too heavy", x.count(11), 1);
            x.set(LoopMemo.BOUND, 2 + rows);
            x.again();
            x.step(1);
            c.due("rows " + rows + ", a weight as BOUND: rows remembered", x.remembered(6, 0), rows);
            c.due("rows " + rows + ", a weight as BOUND: too heavy", x.count(11), 1);
        }
        LoopMemo x = looked(0, 0, "1");
        c.due("with a BOUND of 0 none is remembered", x.count(2), 0);
    }

    private static void tooHeavyThrowsNothingOut(Check c) {
        LoopMemo x = new LoopMemo();
        x.set(LoopMemo.BOUND, 4);
        Check.addRows(x, true, "3:1,3:1,3:1");
        look(x, "123");
        dueRemembered(c, "weight 5 for a BOUND of 4", x, "12");
        c.due("thrown out", x.count(9) + x.count(10), 0);
        c.due("too heavy", x.count(11), 1);
        x.drop(true, 0);
        look(x, "3");
        dueRemembered(c, "weight 4 for a BOUND of 4", x, "3");
        c.due("thrown out to make room", x.count(9), 2);
        c.due("too heavy", x.count(11), 1);
    }

    private static void roomIsMade(Check c) {
        LoopMemo x = new LoopMemo();
        x.set(LoopMemo.BOUND, 6);
        x.add(true, 5, 50);
        look(x, "123");
        dueRemembered(c, "together as BOUND", x, "123");
        c.due("none is thrown out", x.count(9), 0);
        look(x, "4");
        dueRemembered(c, "together 8: one goes", x, "234");
        c.due("one is thrown out", x.count(9), 1);
        look(x, "5");
        dueRemembered(c, "together 9: two go", x, "45");
        c.due("three are thrown out", x.count(9), 3);
        c.due("together", x.count(3), 5);
        LoopMemo y = looked(7, 0, "123");
        look(y, "4");
        c.due("together 8 for a BOUND of 7: one goes", y.count(9), 1);
        LoopMemo all = looked(20, 0, "0123456789");
        c.due("all ten have room in 20", all.count(9), 0);
    }

    private static void longestAgoGoes(Check c) {
        dueRemembered(c, "1 2 3 1, then 4", looked(6, 0, "12314"), "134");
        dueRemembered(c, "1 2 3 1 2 2, then 4", looked(6, 0, "1231224"), "124");
        dueRemembered(c, "3 2 1, then 4", looked(6, 0, "3214"), "124");
    }

    private static void leastOftenGoes(Check c) {
        dueRemembered(c, "3 1 1 2 2 1, then 4", looked(6, 1, "3112214"), "124");
        dueRemembered(c, "1 1 2 2 3, then 4", looked(6, 1, "112234"), "124");
        LoopMemo x = looked(4, 1, "111");
        x.forget();
        look(x, "2213");
        dueRemembered(c, "1 is counted since it was remembered anew", x, "23");
    }

    private static void firstTimeCounts(Check c) {
        LoopMemo x = looked(4, 1, "1");
        c.due("looked up once", x.remembered(1, 4), 1);
        look(x, "1");
        c.due("looked up twice", x.remembered(1, 4), 2);
        dueRemembered(c, "1 twice and 2 once, then 3", looked(4, 1, "1123"), "13");
    }

    private static void ofSeveralLongestAgoGoes(Check c) {
        dueRemembered(c, "1 2 2 1 3 3, then 4", looked(6, 1, "1221334"), "134");
        dueRemembered(c, "1 2 3, then 4", looked(6, 1, "1234"), "234");
        dueRemembered(c, "3 3 1 2 1 2, then 4", looked(6, 1, "3312124"), "124");
    }

    private static void rememberedLongestAgoGoes(Check c) {
        dueRemembered(c, "1 2 3 1 1, then 4", looked(6, 2, "123114"), "234");
        LoopMemo x = looked(6, 2, "1231145");
        dueRemembered(c, "then 5", x, "345");
        look(x, "1");
        dueRemembered(c, "then 1 anew", x, "145");
    }

    private static void newOneStays(Check c) {
        for (int rule = 0; rule <= 2; rule++) {
            dueRemembered(c, "rule " + rule + ", room for one", looked(2, rule, "1112"), "2");
            LoopMemo x = looked(4, rule, "112233");
            c.due("rule " + rule + ", room for two: 3 stays", x.remembered(3, 4), 2);
            c.due("rule " + rule + ", room for two: thrown out", x.count(9), 1);
        }
        LoopMemo wide = new LoopMemo();
        wide.set(LoopMemo.BOUND, 22);
        wide.set(LoopMemo.RULE, 1);
        for (int i = 0; i < 20; i++) {
            wide.add(true, 9, 1);
        }
        look(wide, "01234567012345679");
        dueRemembered(c, "all others go for one as heavy as BOUND", wide, "9");
        c.due("they were eight", wide.count(9), 8);
    }

    private static void dueTrue(Check c, String at, LoopMemo x) {
        for (int key = 0; key < 10; key++) {
            for (int what = 0; what <= 3 && x.remembered(key, 4) > 0; what++) {
                c.due(at + ": number " + what + " of " + key, x.remembered(key, what), x.answer(key, what));
            }
        }
    }

    private static void keptTrue(Check c) {
        for (int keeping = 0; keeping <= 2; keeping++) {
            for (int row = 0; row < 4; row++) {
                LoopMemo x = warm(keeping);
                x.change(row, 4 - row, 5);
                dueTrue(c, "keeping " + keeping + ", change of " + row, x);
                look(x, "1234");
                x.add(true, row, 99);
                dueTrue(c, "keeping " + keeping + ", another row of " + row, x);
                look(x, "1234");
                x.drop(true, row);
                dueTrue(c, "keeping " + keeping + ", drop of " + row, x);
            }
            String[] come = {"134", "", "1234"};
            String[] change = {"34", "", "1234"};
            LoopMemo z = warm(keeping);
            z.add(true, 2, 7);
            dueRemembered(c, "keeping " + keeping + ", a row of 2 comes", z, come[keeping]);
            z = warm(keeping);
            z.drop(true, 2);
            dueRemembered(c, "keeping " + keeping + ", the last row of 2 goes", z, come[keeping]);
            z = warm(keeping);
            z.change(0, 2, 7);
            dueRemembered(c, "keeping " + keeping + ", a row of 1 becomes one of 2", z, change[keeping]);
            c.due("keeping " + keeping + ", the sum of 2", z.remembered(2, 2), keeping == 2 ? 57 : -4);
            LoopMemo y = warm(keeping);
            y.drop(false, 0);
            y.add(false, 1, 1);
            c.due("keeping " + keeping + ": outer rows leave answers alone", y.count(2), 4);
            c.due("keeping " + keeping + ": none is thrown out or mended", y.count(9) + y.count(10) + y.count(12), 0);
        }
    }

    private static void keepingThrowsTheKeysOut(Check c) {
        LoopMemo x = warm(0);
        x.add(true, 9, 1);
        dueRemembered(c, "a row of another key comes", x, "1234");
        x.add(true, 4, 1);
        dueRemembered(c, "a row of 4 comes", x, "123");
        x.drop(true, 1);
        dueRemembered(c, "a row of 2 goes", x, "13");
        c.due("thrown out otherwise", x.count(10), 2);
        LoopMemo y = warm(0);
        y.change(0, 4, 10);
        dueRemembered(c, "1 becomes 4", y, "23");
        c.due("thrown out otherwise", y.count(10), 2);
        LoopMemo z = warm(0);
        z.change(3, 3, 40);
        dueRemembered(c, "3 stays 3", z, "124");
        c.due("thrown out once", z.count(10), 1);
        c.due("not to make room", z.count(9), 0);
        LoopMemo band = warm(0);
        band.set(LoopMemo.LOW, 25);
        band.again();
        band.step(20);
        band.add(true, 1, 24);
        dueRemembered(c, "a row outside of the band comes", band, "234");
        band.drop(true, 1);
        dueRemembered(c, "a row outside of the band goes", band, "34");
    }

    private static void keepingThrowsAllOut(Check c) {
        LoopMemo x = warm(1);
        x.add(true, 9, 1);
        dueRemembered(c, "a row of another key comes", x, "");
        c.due("thrown out otherwise", x.count(10), 4);
        look(x, "1234");
        x.drop(true, 4);
        dueRemembered(c, "a row of another key goes", x, "");
        c.due("thrown out otherwise", x.count(10), 8);
        look(x, "1234");
        x.change(0, 1, 10);
        dueRemembered(c, "a row stays as it is", x, "");
        c.due("thrown out otherwise", x.count(10), 12);
        x.add(true, 1, 10);
        c.due("none is left", x.count(10), 12);
        c.due("none to make room, none mended", x.count(9) + x.count(12), 0);
    }

    private static void dueNumbers(Check c, String at, LoopMemo x, int key, int rows, int weight, int sum, int first) {
        c.due(at + ": rows", x.remembered(key, 0), rows);
        c.due(at + ": weight", x.remembered(key, 1), weight);
        c.due(at + ": sum", x.remembered(key, 2), sum);
        c.due(at + ": the first row", x.remembered(key, 3), first);
    }

    private static void keepingMends(Check c) {
        LoopMemo x = warm(2);
        x.add(true, 4, 99);
        dueNumbers(c, "4 gets its first row", x, 4, 1, 3, 99, 4);
        x.drop(true, 0);
        dueNumbers(c, "1 loses its only row", x, 1, 0, 2, 0, LoopMemo.NOT_FOUND);
        c.due("mended", x.count(12), 2);
        x.change(3, 1, 7);
        dueNumbers(c, "4 loses a row to 1", x, 4, 0, 2, 0, LoopMemo.NOT_FOUND);
        dueNumbers(c, "1 gets a row of 4", x, 1, 1, 3, 7, 3);
        c.due("both are mended", x.count(12), 4);
        x.change(1, 2, 31);
        dueNumbers(c, "2 has another value", x, 2, 2, 4, 51, 0);
        c.due("it is mended once", x.count(12), 5);
        x.change(1, 8, 31);
        dueNumbers(c, "2 loses a row to a key that is not remembered", x, 2, 1, 3, 20, 0);
        c.due("one is mended", x.count(12), 6);
        dueRemembered(c, "all stay", x, "1234");
        c.due("none is thrown out", x.count(9) + x.count(10), 0);
    }

    private static void mendedAboveTheBound(Check c) {
        LoopMemo x = warm(2);
        c.due("together as BOUND", x.count(3), 12);
        x.add(true, 1, 1);
        c.due("together above BOUND", x.count(3), 13);
        dueRemembered(c, "together above BOUND", x, "1234");
        LoopMemo y = new LoopMemo();
        y.set(LoopMemo.KEEPING, 2);
        y.set(LoopMemo.BOUND, 2);
        look(y, "1");
        for (int i = 0; i < 20; i++) {
            y.add(true, 1, 1);
        }
        c.due("one answer alone is above BOUND", y.remembered(1, 1), 22);
        c.due("it is not too heavy", y.count(11), 0);
        y.again();
        c.due("it is a hit", y.step(1), 1);
        c.due("it stays above BOUND", y.count(3), 22);
    }

    private static void nextOneMakesRoom(Check c) {
        LoopMemo x = warm(2);
        x.add(true, 1, 1);
        look(x, "3");
        c.due("a hit throws none out", x.count(9), 0);
        look(x, "5");
        dueRemembered(c, "together 15 with 5: 1 goes", x, "2345");
        c.due("thrown out to make room", x.count(9), 1);
        c.due("together", x.count(3), 11);
        LoopMemo all = warm(2);
        Check.addRows(all, true, "4:1,4:1,4:1,4:1,4:1");
        look(all, "5");
        dueRemembered(c, "together 19 with 5: 1 and 2 go", all, "345");
        Check.addRows(all, true, "4:1,4:1,4:1,4:1,4:1");
        look(all, "6");
        dueRemembered(c, "together 19 with 6, and 4 alone 12: 3 and 4 go", all, "56");
        c.due("four were thrown out to make room", all.count(9), 4);
        LoopMemo y = new LoopMemo();
        y.set(LoopMemo.KEEPING, 2);
        y.set(LoopMemo.BOUND, 3);
        Check.addRows(y, true, "2:1,2:1");
        look(y, "1");
        Check.addRows(y, true, "1:1,1:1");
        look(y, "2");
        dueRemembered(c, "one that is too heavy throws none out", y, "1");
        c.due("it was too heavy", y.count(11), 1);
        look(y, "3");
        dueRemembered(c, "one that is remembered does", y, "3");
    }

    private static void mendingIsNoLook(Check c) {
        String[] orders = {"3124", "4312", "1234"};
        for (int rule = 0; rule <= 2; rule++) {
            LoopMemo x = new LoopMemo();
            x.set(LoopMemo.BOUND, 60);
            x.set(LoopMemo.KEEPING, 2);
            x.set(LoopMemo.RULE, rule);
            look(x, "12343124");
            x.forget();
            look(x, rule == 1 ? "1233124" : "12343124");
            dueOrder(c, "rule " + rule, x, orders[rule]);
            int misses = x.count(7);
            int hits = x.count(6);
            Check.addRows(x, true, "1:1,2:2,3:3,4:4,1:5");
            x.change(0, 2, 1);
            x.drop(true, 1);
            c.due("rule " + rule + ": mended", x.count(12), 8);
            dueOrder(c, "rule " + rule + ", mended", x, orders[rule]);
            c.due("rule " + rule + ": looks of 3", x.remembered(3, 4), 2);
            c.due("rule " + rule + ": no look was a hit", x.count(6), hits);
            c.due("rule " + rule + ": no look was a miss", x.count(7), misses);
        }
    }

    private static void otherAnswersAreRenumbered(Check c) {
        for (int keeping = 0; keeping <= 2; keeping += 2) {
            LoopMemo x = warm(keeping);
            dueNumbers(c, "keeping " + keeping + ", 2", x, 2, 2, 4, 50, 1);
            x.drop(true, 0);
            dueNumbers(c, "keeping " + keeping + ", 2 behind drop()", x, 2, 2, 4, 50, 0);
            dueNumbers(c, "keeping " + keeping + ", 3 behind drop()", x, 3, 1, 3, 40, 2);
            dueNumbers(c, "keeping " + keeping + ", 4 behind drop()", x, 4, 0, 2, 0, LoopMemo.NOT_FOUND);
            c.due("keeping " + keeping + ": its rows are marked", x.row(true, 0, 2) + x.row(true, 1, 2), 2);
            x.drop(true, 2);
            dueNumbers(c, "keeping " + keeping + ", 2 behind drop() of the last", x, 2, 2, 4, 50, 0);
            c.due("keeping " + keeping + ": 2 is a hit still", x.remembered(2, 4), 1);
        }
    }

    private static void settingThrowsAllOut(Check c) {
        int[][] sets = {{3, 0}, {3, 1}, {3, 99}, {4, 99}, {4, 98}, {4, 0}, {2, 0}, {2, 1}, {2, 2}, {1, 0}, {1, 1},
            {1, 2}};
        for (int[] set : sets) {
            LoopMemo x = warm(0);
            String at = "set(" + set[0] + ", " + set[1] + ")";
            c.due(at, x.set(set[0], set[1]), 4);
            dueRemembered(c, at, x, "");
            c.due(at + ": thrown out otherwise", x.count(10), 4);
            c.due(at + ": thrown out to make room", x.count(9), 0);
            c.due(at + " once more", x.set(set[0], set[1]), 0);
        }
        LoopMemo y = warm(0);
        c.due("set(0, 12), which BOUND is", y.set(LoopMemo.BOUND, 12), 0);
        dueRemembered(c, "set(0, 12), which BOUND is", y, "1234");
    }

    private static void boundThrowsOut(Check c) {
        String[] orders = {"3124", "4312", "1234"};
        for (int rule = 0; rule <= 2; rule++) {
            String order = orders[rule];
            LoopMemo x = looked(60, rule, rule == 1 ? "1233124" : "12343124");
            c.due("rule " + rule + ", as heavy as all", x.set(LoopMemo.BOUND, 8), 0);
            dueOrder(c, "rule " + rule + ", 8", x, order);
            c.due("rule " + rule + ", 1 less", x.set(LoopMemo.BOUND, 7), 1);
            dueOrder(c, "rule " + rule + ", 7", x, order.substring(1));
            c.due("rule " + rule + ", as heavy as these", x.set(LoopMemo.BOUND, 6), 0);
            c.due("rule " + rule + ", two go", x.set(LoopMemo.BOUND, 3), 2);
            dueOrder(c, "rule " + rule + ", 3", x, order.substring(3));
            c.due("rule " + rule + ", to 0", x.set(LoopMemo.BOUND, 0), 1);
            dueRemembered(c, "rule " + rule + ", 0", x, "");
            c.due("rule " + rule + ", thrown out by a lesser BOUND", x.count(9), 4);
            c.due("rule " + rule + ", thrown out otherwise", x.count(10), 0);
            c.due("rule " + rule + ", to 60", x.set(LoopMemo.BOUND, 60), 0);
        }
        LoopMemo mended = warm(2);
        mended.add(true, 4, 1);
        c.due("mended answers above a BOUND that stays", mended.set(LoopMemo.BOUND, 12), 1);
        dueRemembered(c, "they go, by the RULE", mended, "234");
    }

    private static void firstValues(Check c) {
        LoopMemo x = new LoopMemo();
        for (int what = 0; what < 5; what++) {
            c.due("the first value of setting " + what, x.count(13 + what), FIRST[what]);
            c.due("its greatest value", x.set(what, HIGHEST[what]), 0);
            c.due("is taken", x.count(13 + what), HIGHEST[what]);
            c.due("1 above its greatest value", x.set(what, HIGHEST[what] + 1), LoopMemo.INVALID_ARGUMENT);
            c.due("is not taken", x.count(13 + what), HIGHEST[what]);
        }
    }

    private static void settingTakes(Check c, int what) {
        LoopMemo x = new LoopMemo();
        c.due("its first value", x.count(13 + what), FIRST[what]);
        for (int value = 0; value <= HIGHEST[what]; value++) {
            c.due("set to " + value, x.set(what, value), 0);
            c.due("it is " + value, x.count(13 + what), value);
        }
        c.due("set to -1", x.set(what, -1), LoopMemo.INVALID_ARGUMENT);
        c.due("set to 1 above the greatest", x.set(what, HIGHEST[what] + 1), LoopMemo.INVALID_ARGUMENT);
        c.due("it stays", x.count(13 + what), HIGHEST[what]);
        for (int other = 0; other < 5; other++) {
            c.due("setting " + other + " stays", other == what ? FIRST[other] : x.count(13 + other), FIRST[other]);
        }
    }

    private static void lowAboveHigh(Check c) {
        LoopMemo x = new LoopMemo();
        Check.addRows(x, true, "1:0,1:49,1:50,1:99");
        x.set(LoopMemo.LOW, 50);
        x.set(LoopMemo.HIGH, 49);
        c.due("50 to 49: rows", x.answer(1, 0), 0);
        c.due("50 to 49: weight", x.answer(1, 1), 2);
        c.due("50 to 49: sum", x.answer(1, 2), 0);
        c.due("50 to 49: the first row", x.answer(1, 3), LoopMemo.NOT_FOUND);
        look(x, "1");
        c.due("50 to 49: it is remembered", x.remembered(1, 0), 0);
        c.due("50 to 49: the total", x.count(5), 0);
        c.due("50 to 49: the total by rows", x.total(1), 0);
        c.due("50 to 49: no row is marked", x.row(true, 1, 2) + x.row(true, 2, 2), 0);
        x.set(LoopMemo.LOW, 99);
        x.set(LoopMemo.HIGH, 0);
        c.due("99 to 0: rows", x.answer(1, 0), 0);
        x.set(LoopMemo.LOW, 0);
        c.due("0 to 0: sum and rows", 100 * x.answer(1, 2) + x.answer(1, 0), 1);
        x.set(LoopMemo.HIGH, 99);
        x.set(LoopMemo.LOW, 99);
        c.due("99 to 99: the first row", x.answer(1, 3), 3);
    }

    private static void forgetsAll(Check c) {
        LoopMemo x = looked(60, 0, "0123456789");
        x.forget();
        dueRemembered(c, "ten are forgotten", x, "");
        c.due("no weights", x.count(3), 0);
        c.due("ten are forgotten", x.count(10), 10);
        c.due("none makes room", x.count(9), 0);
        c.due("the place stays", x.count(4), 10);
        x.again();
        x.step(10);
        c.due("all are misses again", x.count(7), 20);
    }

    private static void forgetTellsHowMany(Check c) {
        LoopMemo x = new LoopMemo();
        c.due("none", x.forget(), 0);
        look(x, "3");
        c.due("one", x.forget(), 1);
        c.due("none again", x.forget(), 0);
        c.due("ten", looked(60, 0, "0123456789").forget(), 10);
        c.due("as many as have room", looked(7, 0, "0123456789").forget(), 3);
    }

    private static void setChangesOne(Check c) {
        for (int what = 0; what < 5; what++) {
            LoopMemo x = new LoopMemo();
            x.set(what, 1);
            for (int other = 0; other < 5; other++) {
                c.due("set(" + what + ", 1): setting " + other, x.count(13 + other), other == what ? 1 : FIRST[other]);
            }
        }
    }

    private static void setTakesWhats(Check c) {
        LoopMemo x = warm(0);
        c.due("set(-1, 0)", x.set(-1, 0), LoopMemo.INVALID_ARGUMENT);
        c.due("set(5, 0)", x.set(5, 0), LoopMemo.INVALID_ARGUMENT);
        for (int what : FAR) {
            c.due("set(" + what + ", 0)", x.set(what, 0), LoopMemo.INVALID_ARGUMENT);
        }
        dueRemembered(c, "none is thrown out", x, "1234");
        c.due("set(4, 0)", x.set(4, 0), 4);
        c.due("set(0, 0)", x.set(0, 0), 0);
    }

    private static void setTakesValues(Check c) {
        for (int what = 0; what < 5; what++) {
            LoopMemo x = warm(0);
            c.due("set(" + what + ", -1)", x.set(what, -1), LoopMemo.INVALID_ARGUMENT);
            c.due("set(" + what + ", 1 too much)", x.set(what, HIGHEST[what] + 1), LoopMemo.INVALID_ARGUMENT);
            for (int value : FAR) {
                c.due("set(" + what + ", " + value + ")", x.set(what, value), LoopMemo.INVALID_ARGUMENT);
            }
            c.due("it stays", x.count(13 + what), FIRST[what]);
            dueRemembered(c, "none is thrown out", x, "1234");
            c.due("the least", x.set(what, 0), 4);
            c.due("the greatest", x.set(what, HIGHEST[what]), 0);
        }
    }

    private static void setTellsHowMany(Check c) {
        for (int what = 0; what < 5; what++) {
            LoopMemo x = new LoopMemo();
            c.due("none, of setting " + what, x.set(what, 0), 0);
        }
        c.due("none of ten, by a BOUND that is as heavy", looked(60, 0, "0123456789").set(LoopMemo.BOUND, 20), 0);
        c.due("one of ten, by a BOUND 1 less", looked(60, 0, "0123456789").set(LoopMemo.BOUND, 19), 1);
        c.due("all of ten, by a BOUND of 0", looked(60, 0, "0123456789").set(LoopMemo.BOUND, 0), 10);
        c.due("all of ten, by LOW", looked(60, 0, "0123456789").set(LoopMemo.LOW, 0), 10);
    }

    private static void answerIsOfNow(Check c) {
        LoopMemo x = new LoopMemo();
        x.set(LoopMemo.BOUND, 0);
        c.due("nothing is found yet", x.answer(1, 0), 0);
        x.add(true, 1, 10);
        c.due("a row came", x.answer(1, 2), 10);
        x.change(0, 1, 20);
        c.due("it changed", x.answer(1, 2), 20);
        x.set(LoopMemo.LOW, 21);
        c.due("the band changed", x.answer(1, 2), 0);
        x.set(LoopMemo.LOW, 20);
        x.change(0, 2, 20);
        c.due("it is a row of 2", 10 * x.answer(1, 0) + x.answer(2, 0), 1);
        x.drop(true, 0);
        c.due("it went", x.answer(2, 0), 0);
        c.due("no answer is looked up by that", x.count(6) + x.count(7), 0);
        x.undo();
        c.due("it is back", x.answer(2, 3), 0);
    }

    private static void answerTakesKeys(Check c) {
        LoopMemo x = new LoopMemo();
        Check.addRows(x, true, "0:10,9:90");
        for (int what = 0; what <= 3; what++) {
            c.due("answer(-1, " + what + ")", x.answer(-1, what), LoopMemo.INVALID_ARGUMENT);
            c.due("answer(10, " + what + ")", x.answer(10, what), LoopMemo.INVALID_ARGUMENT);
            for (int key : FAR) {
                c.due("answer(" + key + ", " + what + ")", x.answer(key, what), LoopMemo.INVALID_ARGUMENT);
            }
        }
        c.due("the least", x.answer(0, 2), 10);
        c.due("the greatest", x.answer(9, 2), 90);
    }

    private static void answerTells(Check c) {
        LoopMemo x = new LoopMemo();
        for (int i = 0; i < 20; i++) {
            x.add(true, i < 17 ? 4 : 5, 80 + i);
        }
        int[][] want = {{17, 19, 17 * 80 + 136, 0}, {3, 5, 97 + 98 + 99, 17}};
        for (int what = 0; what <= 3; what++) {
            c.due("answer(4, " + what + ")", x.answer(4, what), want[0][what]);
            c.due("answer(5, " + what + ")", x.answer(5, what), want[1][what]);
        }
        x.change(18, 6, 1);
        c.due("the first row of one row", x.answer(6, 3), 18);
        x.change(19, 7, 1);
        c.due("row 19 as the first row", x.answer(7, 3), 19);
    }

    private static void answerWithoutRows(Check c) {
        LoopMemo x = new LoopMemo();
        c.due("in an empty table", x.answer(0, 3), LoopMemo.NOT_FOUND);
        x.add(true, 0, 99);
        c.due("with a row", x.answer(0, 3), 0);
        c.due("for another key", x.answer(1, 3), LoopMemo.NOT_FOUND);
        x.set(LoopMemo.HIGH, 98);
        c.due("outside of the band", x.answer(0, 3), LoopMemo.NOT_FOUND);
        c.due("its other numbers", x.answer(0, 0) + 10 * x.answer(0, 1) + 100 * x.answer(0, 2), 20);
    }

    private static void answerTakesWhats(Check c) {
        LoopMemo x = warm(0);
        c.due("answer(1, -1)", x.answer(1, -1), LoopMemo.INVALID_ARGUMENT);
        c.due("answer(1, 4)", x.answer(1, 4), LoopMemo.INVALID_ARGUMENT);
        c.due("answer(9, 5), which is without rows", x.answer(9, 5), LoopMemo.INVALID_ARGUMENT);
        for (int what : FAR) {
            c.due("answer(1, " + what + ")", x.answer(1, what), LoopMemo.INVALID_ARGUMENT);
        }
        c.due("the least", x.answer(2, 0), 2);
        c.due("the greatest", x.answer(2, 3), 1);
    }

    private static void rememberedComesAndGoes(Check c) {
        LoopMemo x = new LoopMemo();
        x.set(LoopMemo.BOUND, 3);
        Check.addRows(x, true, "1:10,2:20,3:30,3:30");
        c.due("not yet", x.remembered(1, 0), LoopMemo.NOT_FOUND);
        look(x, "1");
        c.due("looked up", x.remembered(1, 2), 10);
        look(x, "2");
        c.due("thrown out for 2", x.remembered(1, 2), LoopMemo.NOT_FOUND);
        c.due("2", x.remembered(2, 2), 20);
        look(x, "3");
        c.due("3 is too heavy", x.remembered(3, 0), LoopMemo.NOT_FOUND);
        c.due("2 stays", x.remembered(2, 2), 20);
        x.drop(true, 1);
        c.due("thrown out with its row", x.remembered(2, 2), LoopMemo.NOT_FOUND);
    }

    private static void rememberedTakesKeys(Check c) {
        LoopMemo x = looked(60, 0, "0123456789");
        for (int what = 0; what <= 5; what++) {
            c.due("remembered(-1, " + what + ")", x.remembered(-1, what), LoopMemo.INVALID_ARGUMENT);
            c.due("remembered(10, " + what + ")", x.remembered(10, what), LoopMemo.INVALID_ARGUMENT);
            for (int key : FAR) {
                c.due("remembered(" + key + ", " + what + ")", x.remembered(key, what), LoopMemo.INVALID_ARGUMENT);
            }
        }
        c.due("the least", x.remembered(0, 5), 0);
        c.due("the greatest", x.remembered(9, 5), 9);
    }

    private static void rememberedTells(Check c) {
        LoopMemo x = new LoopMemo();
        x.set(LoopMemo.BOUND, 60);
        for (int i = 0; i < 20; i++) {
            x.add(true, i < 17 ? 4 : 5, 80 + i);
        }
        look(x, "45");
        dueNumbers(c, "4", x, 4, 17, 19, 17 * 80 + 136, 0);
        dueNumbers(c, "5", x, 5, 3, 5, 97 + 98 + 99, 17);
        c.due("together", x.count(3), 24);
    }

    private static void rememberedWithoutRows(Check c) {
        LoopMemo x = new LoopMemo();
        x.add(true, 0, 99);
        look(x, "01");
        dueNumbers(c, "with a row", x, 0, 1, 3, 99, 0);
        dueNumbers(c, "without rows", x, 1, 0, 2, 0, LoopMemo.NOT_FOUND);
        c.due("its looks are told", x.remembered(1, 4), 1);
        c.due("its place is told", x.remembered(1, 5), 1);
    }

    private static void rememberedTellsLooks(Check c) {
        LoopMemo x = new LoopMemo();
        for (int i = 0; i < 20; i++) {
            x.add(false, 1, 1);
        }
        for (int looks = 1; looks <= 20; looks++) {
            x.step(1);
            c.due("looks", x.remembered(1, 4), looks);
        }
        x.again();
        x.step(20);
        c.due("twenty more", x.remembered(1, 4), 40);
        x.forget();
        x.again();
        x.step(1);
        c.due("remembered anew", x.remembered(1, 4), 1);
        LoopMemo ten = looked(60, 0, "01234567899876543210");
        for (int key = 0; key <= 9; key++) {
            c.due("looks of " + key + ", one of ten", ten.remembered(key, 4), 2);
            c.due("its place", ten.remembered(key, 5), 9 - key);
        }
        LoopMemo y = looked(2, 0, "1112");
        c.due("thrown out for 2", y.remembered(1, 4), LoopMemo.NOT_FOUND);
        look(y, "1");
        c.due("thrown out for 2, and remembered anew", y.remembered(1, 4), 1);
    }

    private static void rememberedTellsPlaces(Check c) {
        String[] orders = {"3124", "4312", "1234"};
        for (int rule = 0; rule <= 2; rule++) {
            LoopMemo x = looked(60, rule, rule == 1 ? "1233124" : "12343124");
            dueOrder(c, "rule " + rule, x, orders[rule]);
            look(x, "4");
            dueOrder(c, "rule " + rule + ", 4 once more", x, rule == 1 ? "3124" : orders[rule]);
            dueOrder(c, "rule " + rule + ", one alone", looked(60, rule, "77"), "7");
            dueOrder(c, "rule " + rule + ", all ten", looked(60, rule, "9876543210"), "9876543210");
        }
    }

    private static void rememberedTakesWhats(Check c) {
        LoopMemo x = warm(0);
        c.due("remembered(1, -1)", x.remembered(1, -1), LoopMemo.INVALID_ARGUMENT);
        c.due("remembered(1, 6)", x.remembered(1, 6), LoopMemo.INVALID_ARGUMENT);
        for (int what : FAR) {
            c.due("remembered(1, " + what + ")", x.remembered(1, what), LoopMemo.INVALID_ARGUMENT);
            c.due("remembered(9, " + what + "), none", x.remembered(9, what), LoopMemo.INVALID_ARGUMENT);
        }
        c.due("remembered(9, -1), none", x.remembered(9, -1), LoopMemo.INVALID_ARGUMENT);
        c.due("remembered(9, 6), none", x.remembered(9, 6), LoopMemo.INVALID_ARGUMENT);
        for (int what = 0; what <= 5; what++) {
            c.due("remembered(9, " + what + "), none", x.remembered(9, what), LoopMemo.NOT_FOUND);
        }
        c.due("the least", x.remembered(2, 0), 2);
        c.due("the greatest", x.remembered(2, 5), 1);
    }
}
