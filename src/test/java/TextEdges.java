/** A test for each sentence of 'Texts' and of promises 9 to 14. */
final class TextEdges {
    private static final int ROWS = 0;
    private static final int DEEDS = 1;
    private static final int[] FAR = {Integer.MIN_VALUE, -100, Integer.MAX_VALUE};

    private TextEdges() {
    }

    static void all(Sentences s) {
        pad(s);
        kinds(s);
        faults(s);
        padCalls(s);
        readCalls(s);
        why(s);
    }

    private static void pad(Sentences s) {
        s.section("Texts");
        s.holds("There is a pad of at most 60 characters", TextEdges::atMost60Characters);
        s.holds("initially empty.", TextEdges::initiallyEmpty);
        s.holds("It can be read in two ways.", TextEdges::readInTwoWays);
    }

    private static void kinds(Sentences s) {
        s.holds("Rows: one or more rows with \",\" between two:", TextEdges::commasBetweenRows);
        s.holds("a digit (the key), \":\", and a number 0 to 99 (the value).", TextEdges::rowIsKeyAndValue);
        s.holds("Deeds: one or more deeds with \";\" between two:", TextEdges::semicolonsBetweenDeeds);
        s.holds("\"s\" and a number 1 to 20 (so many steps of the loop);", TextEdges::deedOfSteps);
        s.holds("\"+\", a digit (the key), \":\", and a number 0 to 99 (the value: an inner row comes);",
                TextEdges::deedOfARowThatComes);
        s.holds("\"-\" and a number 0 to 19 (this inner row goes);", TextEdges::deedOfARowThatGoes);
        s.holds("\"r\" (the loop begins again).", TextEdges::deedOfBeginningAgain);
    }

    private static void faults(Sentences s) {
        s.holds("Numbers have no needless 0 ahead.", TextEdges::noNeedlessZero);
        s.holds("The fault of the pad, read in one of these ways, is the position, from 0, of the first character that "
                + "is wrong:", TextEdges::firstWrongCharacter);
        s.holds("no pad of that kind, of any length, begins with the characters before it and this character;",
                TextEdges::longerPadsCount);
        s.holds("if there is none, and the pad is not complete (also if it is empty), the length of the pad.",
                TextEdges::incompletePads);
    }

    private static void padCalls(Sentences s) {
        s.section("Promise 9: append");
        s.holds("int append(int code): Appends a character to the pad.", TextEdges::appendsBehind);
        s.holds("code: the character code, 33 to 126", TextEdges::appendTakesCodes);
        s.holds("Returns the length of the pad then; INVALID_ARGUMENT;", TextEdges::appendReturnsTheLength);
        s.holds("LIMIT_REACHED if it has 60 characters.", TextEdges::appendToAFullPad);

        s.section("Promise 10: clear");
        s.holds("int clear(): Empties the pad.", TextEdges::clearEmpties);
        s.holds("Returns the length that it had.", TextEdges::clearReturnsTheLength);

        s.section("Promise 11: fault");
        s.holds("int fault(int way): Returns the fault of the pad.", TextEdges::faultIsOfNow);
        s.holds("way: 0 if it is read as rows, 1 if it is read as deeds", TextEdges::faultTakesWays);
        s.holds("Returns the fault; INVALID_ARGUMENT; NOT_FOUND if it has none.", TextEdges::faultOrNone);
    }

    private static void readCalls(Sentences s) {
        s.section("Promise 12: fill");
        s.holds("int fill(boolean inner): Adds the rows of the pad to a table, one after the other (as add() does),",
                TextEdges::fillAddsAsAddDoes);
        s.holds("and empties the pad.", TextEdges::fillEmptiesThePad);
        s.holds("inner: whether to the inner table, otherwise to the outer one", TextEdges::fillOfTheTable);
        s.holds("Returns how many rows it has then;", TextEdges::fillReturnsRows);
        s.holds("NOT_POSSIBLE if the pad has a fault, read as rows;", TextEdges::fillWithAFault);
        s.holds("LIMIT_REACHED if it would have more than 20.", TextEdges::fillOfMoreThan20);

        s.section("Promise 13: carryOut");
        s.holds("int carryOut(): Carries out the deeds of the pad, one after the other, as step(), add(), drop() and "
                + "again() do,", TextEdges::carriesOutAsTheCallsDo);
        s.holds("up to the first one that returns an error,", TextEdges::stopsAtTheFirstError);
        s.holds("and empties the pad.", TextEdges::carryOutEmptiesThePad);
        s.holds("This is one change, also if none is carried out.", TextEdges::carryOutIsOneChange);
        s.holds("Returns how many are carried out;", TextEdges::carryOutReturnsHowMany);
        s.holds("NOT_POSSIBLE if the pad has a fault, read as deeds.", TextEdges::carryOutWithAFault);
    }

    private static void why(Sentences s) {
        s.section("Promise 14: why");
        s.holds("int why(int what): Tells about the deed at which the latest call of carryOut() that returned no error "
                + "stopped.", TextEdges::whyTellsOfTheLatest);
        s.holds("(This is not a part of what is undone, or restored.)", TextEdges::whyIsNotUndone);
        s.holds("what: 0: the error that it returned;", TextEdges::whyTellsTheError);
        s.holds("1: its number among the deeds, from 0;", TextEdges::whyTellsTheNumber);
        s.holds("2: the position of its first sign in the pad", TextEdges::whyTellsThePosition);
        s.holds("Returns the number; INVALID_ARGUMENT;", TextEdges::whyTakesWhats);
        s.holds("NOT_FOUND if there was no such call, or all its deeds were carried out.", TextEdges::whyWithoutAStop);
    }

    private static int faultOf(int way, String text) {
        LoopMemo x = new LoopMemo();
        Check.type(x, text);
        return x.fault(way);
    }

    private static void dueFault(Check c, int way, String text, int want) {
        c.due("fault(" + way + ") of " + text, faultOf(way, text), want);
    }

    private static void dueWhole(Check c, int way, String... texts) {
        for (String text : texts) {
            dueFault(c, way, text, LoopMemo.NOT_FOUND);
        }
    }

    /** These want more characters: all that is there may stay. */
    private static void dueUnfinished(Check c, int way, String... texts) {
        for (String text : texts) {
            dueFault(c, way, text, text.length());
        }
    }

    /** The last character is wrong, and so it is with more behind it. */
    private static void dueWrongAtLast(Check c, int way, String... texts) {
        for (String text : texts) {
            dueFault(c, way, text, text.length() - 1);
            dueFault(c, way, text + "1", text.length() - 1);
            dueFault(c, way, text + "~,;", text.length() - 1);
        }
    }

    private static int typed(LoopMemo x, String text) {
        Check.type(x, text);
        return x.carryOut();
    }

    private static void atMost60Characters(Check c) {
        LoopMemo x = new LoopMemo();
        for (int i = 1; i <= 60; i++) {
            c.due("character " + i, x.append('r'), i);
        }
        c.due("character 61", x.append('r'), LoopMemo.LIMIT_REACHED);
        c.due("the length", x.count(18), 60);
        x.clear();
        c.due("the first character of an emptied pad", x.append('r'), 1);
    }

    private static void initiallyEmpty(Check c) {
        LoopMemo x = new LoopMemo();
        c.due("the length", x.count(18), 0);
        c.due("its fault, read as rows", x.fault(ROWS), 0);
        c.due("its fault, read as deeds", x.fault(DEEDS), 0);
        c.due("the length that clear() tells", x.clear(), 0);
        c.due("fill(true)", x.fill(true), LoopMemo.NOT_POSSIBLE);
        c.due("carryOut()", x.carryOut(), LoopMemo.NOT_POSSIBLE);
    }

    private static void readInTwoWays(Check c) {
        LoopMemo x = new LoopMemo();
        Check.type(x, "1:5,2:6");
        c.due("rows, read as rows", x.fault(ROWS), LoopMemo.NOT_FOUND);
        c.due("rows, read as deeds", x.fault(DEEDS), 0);
        Check.type(x, "s1;+1:5");
        c.due("deeds, read as rows", x.fault(ROWS), 0);
        c.due("deeds, read as deeds", x.fault(DEEDS), LoopMemo.NOT_FOUND);
        c.due("rows once more", faultOf(ROWS, "1:5;+1:5"), 3);
        c.due("deeds once more", faultOf(DEEDS, "s1,+1:5"), 2);
    }

    private static void commasBetweenRows(Check c) {
        dueWhole(c, ROWS, "1:5", "1:5,2:6", "1:5,2:6,3:7", "1:5,1:5", "1:2,".repeat(14) + "1:2");
        dueUnfinished(c, ROWS, "", "1:5,", "1:50,", "1:5,2:6,");
        dueWrongAtLast(c, ROWS, ",", "1:5,,", "1:5;", "1:5:", "1:5-", "1:5+", "1:5.", "1:5,2:6,,", "1:50:");
    }

    private static void rowIsKeyAndValue(Check c) {
        for (int key = 0; key <= 9; key++) {
            dueWhole(c, ROWS, key + ":5");
            dueWrongAtLast(c, ROWS, "1:5," + key + ",");
            for (int next = 0; next <= 9; next++) {
                dueWrongAtLast(c, ROWS, key + "" + next, "1:5," + key + next);
            }
        }
        for (int value = 0; value <= 99; value++) {
            LoopMemo x = new LoopMemo();
            Check.type(x, "1:" + value);
            c.due("rows with the value " + value, x.fill(true), 1);
            c.due("the value " + value, x.row(true, 0, 1), value);
        }
        dueUnfinished(c, ROWS, "1", "1:", "1:5,2", "1:5,2:");
        dueWrongAtLast(c, ROWS, "/", ":", "a", "s", "-", "+", "1/", "1;", "1,", "1:/", "1::", "1:,", "1:-", "1:+",
                "1:5/", "1:5:", "1:100", "1:999", "1:990", "1:5,2:100");
    }

    private static void semicolonsBetweenDeeds(Check c) {
        dueWhole(c, DEEDS, "r", "r;r", "s1;r;-1;+1:1", "r;".repeat(29) + "r");
        dueUnfinished(c, DEEDS, "", "r;", "s1;", "s20;", "-1;", "-19;", "+1:1;", "+1:11;");
        dueWrongAtLast(c, DEEDS, ";", "r;;", "r,", "r:", "s1,", "s20,", "-1,", "-19,", "+1:1,", "+1:11,", "rr", "rs",
                "r+", "s1r", "-1r", "+1:1r");
    }

    private static void deedOfSteps(Check c) {
        for (int steps = 1; steps <= 20; steps++) {
            LoopMemo x = new LoopMemo();
            for (int i = 0; i < 20; i++) {
                x.add(false, 1, 1);
            }
            c.due("carryOut() of s" + steps, typed(x, "s" + steps), 1);
            c.due("the place behind s" + steps, x.count(4), steps);
        }
        dueUnfinished(c, DEEDS, "s", "r;s");
        dueWrongAtLast(c, DEEDS, "s0", "s21", "s29", "s30", "s99", "s100", "s200", "s/", "s:", "s;", "ss", "s-", "S");
    }

    private static void deedOfARowThatComes(Check c) {
        for (int key = 0; key <= 9; key++) {
            for (int value = 0; value <= 99; value += 99) {
                LoopMemo x = new LoopMemo();
                c.due("carryOut() of +" + key + ":" + value, typed(x, "+" + key + ":" + value), 1);
                c.due("the key", x.row(true, 0, 0), key);
                c.due("the value", x.row(true, 0, 1), value);
                c.due("outer rows", x.count(0), 0);
            }
            for (int next = 0; next <= 9; next++) {
                dueWrongAtLast(c, DEEDS, "+" + key + next);
            }
        }
        dueUnfinished(c, DEEDS, "+", "+1", "+1:", "r;+", "r;+1", "r;+1:");
        dueWrongAtLast(c, DEEDS, "++", "+:", "+;", "+/", "+s", "+11", "+1;", "+1,", "+1:;", "+1:,", "+1::", "+1:/",
                "+1:100", "+1:999", "1");
    }

    private static void deedOfARowThatGoes(Check c) {
        for (int row = 0; row <= 19; row++) {
            LoopMemo x = new LoopMemo();
            for (int i = 0; i < 20; i++) {
                x.add(true, 1, i);
            }
            c.due("carryOut() of -" + row, typed(x, "-" + row), 1);
            int next = row < 19 ? row + 1 : LoopMemo.INVALID_ARGUMENT;
            c.due("the row that has its number now", x.row(true, row, 1), next);
            c.due("rows", x.count(1), 19);
        }
        dueUnfinished(c, DEEDS, "-", "r;-");
        dueWrongAtLast(c, DEEDS, "-20", "-29", "-30", "-99", "-100", "-190", "--", "-;", "-/", "-:", "-r");
    }

    private static void deedOfBeginningAgain(Check c) {
        LoopMemo x = new LoopMemo();
        Check.addRows(x, true, "1:10");
        Check.addRows(x, false, "1:1,1:2");
        x.step(2);
        c.due("carryOut() of r", typed(x, "r"), 1);
        c.due("the place", x.count(4), 0);
        c.due("the total", x.count(5), 0);
        c.due("what is remembered stays", x.remembered(1, 4), 2);
        dueWrongAtLast(c, DEEDS, "r1", "r0", "R", "q", "t");
    }

    private static void noNeedlessZero(Check c) {
        dueWhole(c, ROWS, "0:0", "0:10", "1:0,0:90");
        dueWrongAtLast(c, ROWS, "00", "01", "1:00", "1:01", "1:09", "1:5,2:07", "1:0,2:00");
        dueWhole(c, DEEDS, "-0", "-10", "s10", "s20", "+0:0", "+0:10", "-0;-0");
        dueWrongAtLast(c, DEEDS, "-00", "-01", "-09", "s0", "+00", "+01", "+1:00", "+1:05", "-0;-00", "r;s0");
    }

    private static void firstWrongCharacter(Check c) {
        dueFault(c, ROWS, "x", 0);
        dueFault(c, ROWS, "1x:y", 1);
        dueFault(c, ROWS, "1:1000", 4);
        dueFault(c, ROWS, "1:5,2:6,x:7,y:8", 8);
        dueFault(c, ROWS, "1:55555", 4);
        dueFault(c, DEEDS, "x", 0);
        dueFault(c, DEEDS, "s1;s2;s21;s22", 8);
        dueFault(c, DEEDS, "+1:5,+x:6", 4);
        dueFault(c, DEEDS, "r;r;R;-x", 4);
        dueFault(c, ROWS, "1:2,".repeat(14) + "1:2x", 59);
        dueFault(c, DEEDS, "r;".repeat(29) + "rr", 59);
        for (int code = 33; code <= 126; code++) {
            LoopMemo x = new LoopMemo();
            x.append(code);
            boolean isDigit = code >= '0' && code <= '9';
            c.due("rows that begin with the code " + code, x.fault(ROWS), isDigit ? 1 : 0);
            boolean needsMore = code == 's' || code == '+' || code == '-';
            c.due("deeds that begin with the code " + code, x.fault(DEEDS),
                    code == 'r' ? LoopMemo.NOT_FOUND : needsMore ? 1 : 0);
        }
    }

    private static void longerPadsCount(Check c) {
        dueFault(c, ROWS, "1:2,".repeat(15), 60);
        dueFault(c, ROWS, "1:22," + "1:2,".repeat(13) + "1:2", LoopMemo.NOT_FOUND);
        dueFault(c, ROWS, "1:22," + "1:2,".repeat(13) + "12", 58);
        dueFault(c, ROWS, "1:22,1:22,1:22," + "1:2,".repeat(11) + "1", 60);
        dueFault(c, ROWS, "1:22,1:22," + "1:2,".repeat(12) + "1:", 60);
        dueFault(c, DEEDS, "r;".repeat(30), 60);
        dueFault(c, DEEDS, "s1;".repeat(19) + "r;s", 60);
        dueFault(c, DEEDS, "s1;".repeat(18) + "r;+1:", 59);
        dueFault(c, DEEDS, "s1;".repeat(18) + "r;r;+1", 60);
        dueFault(c, DEEDS, "s10;".repeat(14) + "+1:9", LoopMemo.NOT_FOUND);
        LoopMemo x = new LoopMemo();
        Check.type(x, "1:2,".repeat(15));
        c.due("more than 60 characters do not go in", x.append('1'), LoopMemo.LIMIT_REACHED);
        c.due("fill(true) of a pad that would go on", x.fill(true), LoopMemo.NOT_POSSIBLE);
    }

    private static void incompletePads(Check c) {
        dueUnfinished(c, ROWS, "", "1", "1:", "1:2,", "1:2,3", "1:2,3:", "1:22,3:44,");
        dueUnfinished(c, DEEDS, "", "s", "+", "-", "+1", "+1:", "r;", "s1;", "-1;", "+1:1;", "r;r;s");
        String rows = "1:2,3:44";
        for (int length = 0; length <= rows.length(); length++) {
            boolean isWhole = length == 3 || length == 7 || length == 8;
            dueFault(c, ROWS, rows.substring(0, length), isWhole ? LoopMemo.NOT_FOUND : length);
        }
        String deeds = "s12;-1;+3:4;r";
        for (int length = 0; length <= deeds.length(); length++) {
            boolean isWhole = length == 2 || length == 3 || length == 6 || length == 11 || length == 13;
            dueFault(c, DEEDS, deeds.substring(0, length), isWhole ? LoopMemo.NOT_FOUND : length);
        }
    }

    private static void appendsBehind(Check c) {
        LoopMemo x = new LoopMemo();
        x.append('1');
        x.append(':');
        c.due("1:, which wants more", x.fault(ROWS), 2);
        x.append('9');
        x.append('8');
        c.due("1:98", x.fault(ROWS), LoopMemo.NOT_FOUND);
        x.fill(true);
        c.due("its value", x.row(true, 0, 1), 98);
        x.append('7');
        c.due("7 alone, in an emptied pad", x.fault(ROWS), 1);
    }

    private static void appendTakesCodes(Check c) {
        LoopMemo x = new LoopMemo();
        c.due("append(32)", x.append(32), LoopMemo.INVALID_ARGUMENT);
        c.due("append(127)", x.append(127), LoopMemo.INVALID_ARGUMENT);
        c.due("append(0)", x.append(0), LoopMemo.INVALID_ARGUMENT);
        c.due("append(256 + 49)", x.append(256 + 49), LoopMemo.INVALID_ARGUMENT);
        c.due("append(65536 + 49)", x.append(65536 + 49), LoopMemo.INVALID_ARGUMENT);
        for (int code : FAR) {
            c.due("append(" + code + ")", x.append(code), LoopMemo.INVALID_ARGUMENT);
        }
        c.due("the length", x.count(18), 0);
        for (int code = 33; code <= 126; code++) {
            c.due("append(" + code + ")", x.append(code), 1);
            x.clear();
        }
    }

    private static void appendReturnsTheLength(Check c) {
        LoopMemo x = new LoopMemo();
        c.due("the first", x.append('a'), 1);
        c.due("a wrong one", x.append(' '), LoopMemo.INVALID_ARGUMENT);
        c.due("the second", x.append('b'), 2);
        x.clear();
        c.due("the first of an emptied pad", x.append('c'), 1);
        c.due("the length", x.count(18), 1);
    }

    private static void appendToAFullPad(Check c) {
        LoopMemo x = new LoopMemo();
        Check.type(x, "r;".repeat(29) + "r");
        c.due("character 60", x.append(';'), 60);
        c.due("character 61", x.append('r'), LoopMemo.LIMIT_REACHED);
        c.due("character 61 once more", x.append('r'), LoopMemo.LIMIT_REACHED);
        c.due("a wrong character 61", x.append(127), LoopMemo.INVALID_ARGUMENT);
        c.due("the pad stays: its length", x.count(18), 60);
        c.due("the pad stays: its fault", x.fault(DEEDS), 60);
    }

    private static void clearEmpties(Check c) {
        LoopMemo x = new LoopMemo();
        Check.type(x, "1:5");
        x.clear();
        c.due("the length", x.count(18), 0);
        c.due("its fault, read as rows", x.fault(ROWS), 0);
        c.due("its fault, read as deeds", x.fault(DEEDS), 0);
        x.append('2');
        c.due("the characters behind it are gone", x.fault(ROWS), 1);
        c.due("it is no change", x.undo(), LoopMemo.NOT_POSSIBLE);
    }

    private static void clearReturnsTheLength(Check c) {
        LoopMemo x = new LoopMemo();
        c.due("of an empty pad", x.clear(), 0);
        x.append('a');
        c.due("of one character", x.clear(), 1);
        Check.type(x, "r;".repeat(30));
        c.due("of a full pad", x.clear(), 60);
        c.due("once more", x.clear(), 0);
    }

    private static void faultIsOfNow(Check c) {
        LoopMemo x = new LoopMemo();
        int[] rows = {1, 2, LoopMemo.NOT_FOUND, LoopMemo.NOT_FOUND, 4, 4};
        for (int i = 0; i < rows.length; i++) {
            x.append("1:5678".charAt(i));
            c.due("read as rows behind " + (i + 1), x.fault(ROWS), rows[i]);
            c.due("read as rows once more", x.fault(ROWS), rows[i]);
            c.due("read as deeds behind " + (i + 1), x.fault(DEEDS), 0);
            c.due("the pad stays", x.count(18), i + 1);
        }
    }

    private static void faultTakesWays(Check c) {
        LoopMemo x = new LoopMemo();
        Check.type(x, "s1");
        c.due("fault(-1)", x.fault(-1), LoopMemo.INVALID_ARGUMENT);
        c.due("fault(2)", x.fault(2), LoopMemo.INVALID_ARGUMENT);
        for (int way : FAR) {
            c.due("fault(" + way + ")", x.fault(way), LoopMemo.INVALID_ARGUMENT);
        }
        c.due("fault(0), of deeds", x.fault(0), 0);
        c.due("fault(1), of deeds", x.fault(1), LoopMemo.NOT_FOUND);
        Check.type(x, "1:5");
        c.due("fault(0), of rows", x.fault(0), LoopMemo.NOT_FOUND);
        c.due("fault(1), of rows", x.fault(1), 0);
        c.due("fault(2), of rows", x.fault(2), LoopMemo.INVALID_ARGUMENT);
    }

    private static void faultOrNone(Check c) {
        dueFault(c, ROWS, "1:5", LoopMemo.NOT_FOUND);
        dueFault(c, ROWS, "1:5,", 4);
        dueFault(c, ROWS, "", 0);
        dueFault(c, DEEDS, "r", LoopMemo.NOT_FOUND);
        dueFault(c, DEEDS, "r;", 2);
        dueFault(c, DEEDS, "", 0);
        LoopMemo x = new LoopMemo();
        c.due("a wrong way, of an empty pad", x.fault(2), LoopMemo.INVALID_ARGUMENT);
        Check.type(x, "r");
        c.due("a wrong way, of a pad without a fault", x.fault(-1), LoopMemo.INVALID_ARGUMENT);
    }

    private static void fillAddsAsAddDoes(Check c) {
        for (int keeping = 0; keeping <= 2; keeping++) {
            LoopMemo x = new LoopMemo();
            LoopMemo y = new LoopMemo();
            for (LoopMemo one : new LoopMemo[] {x, y}) {
                one.set(LoopMemo.KEEPING, keeping);
                Check.addRows(one, true, "1:10");
                Check.addRows(one, false, "1:1,2:1,3:1");
                one.step(3);
            }
            Check.type(x, "1:5,2:0,1:99,4:7");
            x.fill(true);
            Check.addRows(y, true, "1:5,2:0,1:99,4:7");
            for (int what = 0; what <= 17; what++) {
                c.due("keeping " + keeping + ": count(" + what + ")", x.count(what), y.count(what));
            }
            for (int row = 0; row < 5; row++) {
                c.due("keeping " + keeping + ": row " + row, x.row(true, row, 1), y.row(true, row, 1));
            }
            c.due("keeping " + keeping + ": mended", x.count(12), keeping == 2 ? 3 : 0);
            c.due("keeping " + keeping + ": thrown out", x.count(10), keeping == 0 ? 2 : keeping == 1 ? 3 : 0);
            c.due("keeping " + keeping + ": rows of 1", x.answer(1, 0), 3);
        }
    }

    private static void fillEmptiesThePad(Check c) {
        LoopMemo x = new LoopMemo();
        Check.type(x, "1:5,2:6");
        x.fill(true);
        c.due("the length", x.count(18), 0);
        c.due("its fault", x.fault(ROWS), 0);
        c.due("there is nothing more to fill", x.fill(true), LoopMemo.NOT_POSSIBLE);
        c.due("the first character then", x.append('1'), 1);
        x.undo();
        c.due("undo() leaves the pad", x.count(18), 1);
    }

    private static void fillOfTheTable(Check c) {
        LoopMemo x = new LoopMemo();
        Check.type(x, "1:5,2:6");
        c.due("fill(true)", x.fill(true), 2);
        c.due("outer rows", x.count(0), 0);
        Check.type(x, "3:7");
        c.due("fill(false)", x.fill(false), 1);
        c.due("inner rows", x.count(1), 2);
        c.due("the key of the outer row", x.row(false, 0, 0), 3);
    }

    private static void fillReturnsRows(Check c) {
        for (int table = 0; table <= 1; table++) {
            LoopMemo x = new LoopMemo();
            Check.type(x, "1:5");
            c.due("one into an empty table", x.fill(table == 1), 1);
            Check.type(x, "1:5,2:6,3:7");
            c.due("three behind one", x.fill(table == 1), 4);
            Check.type(x, "1:2,".repeat(14) + "9:99");
            c.due("fifteen, in a full pad", x.fill(table == 1), 19);
            c.due("the last one", x.row(table == 1, 18, 1), 99);
        }
    }

    private static void fillWithAFault(Check c) {
        LoopMemo x = new LoopMemo();
        c.due("an empty pad", x.fill(true), LoopMemo.NOT_POSSIBLE);
        String[] faulty = {"1", "1:", "1:5,", "1:5,2:100", "1:05", "r", "s1", "1:5;2:6", "1:5,2"};
        for (String text : faulty) {
            Check.type(x, text);
            c.due("fill(true) of " + text, x.fill(true), LoopMemo.NOT_POSSIBLE);
            c.due("fill(false) of " + text, x.fill(false), LoopMemo.NOT_POSSIBLE);
            c.due("the pad stays", x.count(18), text.length());
        }
        c.due("no row came", x.count(0) + x.count(1), 0);
        c.due("it is no change", x.count(19), 0);
        x.append(':');
        x.append('6');
        c.due("mended", x.fill(true), 2);
    }

    private static void fillOfMoreThan20(Check c) {
        for (int table = 0; table <= 1; table++) {
            boolean inner = table == 1;
            for (int rows = 17; rows <= 20; rows++) {
                LoopMemo x = new LoopMemo();
                for (int i = 0; i < rows; i++) {
                    x.add(inner, 1, 1);
                }
                Check.type(x, "1:5,2:6");
                boolean fits = rows <= 18;
                c.due(rows + " and 2", x.fill(inner), fits ? rows + 2 : LoopMemo.LIMIT_REACHED);
                c.due(rows + " and 2: rows", x.count(table), fits ? rows + 2 : rows);
                c.due(rows + " and 2: the pad", x.count(18), fits ? 0 : 7);
                c.due("the other table has room", fits ? 2 : x.fill(!inner), 2);
            }
        }
    }

    private static void carriesOutAsTheCallsDo(Check c) {
        for (int keeping = 0; keeping <= 2; keeping++) {
            LoopMemo x = new LoopMemo();
            LoopMemo y = new LoopMemo();
            for (LoopMemo one : new LoopMemo[] {x, y}) {
                one.set(LoopMemo.KEEPING, keeping);
                Check.addRows(one, false, "1:1,2:1,1:3,3:1");
            }
            Check.type(x, "+1:10;s2;+2:20;s1;r;s20;-0;r;s3;+4:4");
            c.due("keeping " + keeping + ": carryOut()", x.carryOut(), 10);
            y.add(true, 1, 10);
            y.step(2);
            y.add(true, 2, 20);
            y.step(1);
            y.again();
            y.step(20);
            y.drop(true, 0);
            y.again();
            y.step(3);
            y.add(true, 4, 4);
            for (int what = 0; what <= 17; what++) {
                c.due("keeping " + keeping + ": count(" + what + ")", x.count(what), y.count(what));
            }
            for (int key = 0; key <= 4; key++) {
                c.due("keeping " + keeping + ": looks of " + key, x.remembered(key, 4), y.remembered(key, 4));
            }
            c.due("keeping " + keeping + ": the place", x.count(4), 3);
            c.due("keeping " + keeping + ": the total", x.count(5), 20);
        }
    }

    private static void stopsAtTheFirstError(Check c) {
        LoopMemo x = new LoopMemo();
        c.due("a row that is not there", typed(x, "+1:1;-1;+2:2"), 1);
        c.due("the deed behind it is not carried out", x.count(1), 1);
        c.due("a loop that is done", typed(x, "s1;+2:2"), 0);
        c.due("the deed behind it is not carried out", x.count(1), 1);
        for (int i = 1; i < 20; i++) {
            x.add(true, 3, 3);
        }
        c.due("a table that is full", typed(x, "-0;+4:4;+5:5;-0"), 2);
        c.due("the deed behind it is not carried out", x.count(1), 20);
        x.add(false, 3, 1);
        c.due("steps that the loop is done within are no error", typed(x, "s20;r;s1;r"), 4);
        c.due("steps behind them are", typed(x, "s20;s20;r"), 1);
        c.due("the deed behind it is not carried out", x.count(4), 1);
    }

    private static void carryOutEmptiesThePad(Check c) {
        LoopMemo x = new LoopMemo();
        typed(x, "r;r");
        c.due("all are carried out", x.count(18), 0);
        typed(x, "r;-0;r");
        c.due("one is carried out", x.count(18), 0);
        typed(x, "-0");
        c.due("none is carried out", x.count(18), 0);
        c.due("there is nothing more", x.carryOut(), LoopMemo.NOT_POSSIBLE);
        c.due("the first character then", x.append('r'), 1);
    }

    private static void carryOutIsOneChange(Check c) {
        LoopMemo x = new LoopMemo();
        x.add(true, 9, 9);
        typed(x, "+1:1;r;+2:2;-0");
        c.due("four deeds are one change", x.count(19), 2);
        typed(x, "-19");
        c.due("none is carried out: one change", x.count(19), 3);
        typed(x, "+3:3;-19");
        c.due("one is carried out: one change", x.count(19), 4);
        c.due("undo()", x.undo(), 3);
        c.due("the rows of four deeds", x.count(1), 2);
        c.due("undo() of none", x.undo(), 2);
        c.due("the rows of four deeds", x.count(1), 2);
        c.due("undo() of four deeds", x.undo(), 1);
        c.due("the row ahead of them", x.row(true, 0, 0), 9);
        c.due("rows", x.count(1), 1);
    }

    private static void carryOutReturnsHowMany(Check c) {
        LoopMemo x = new LoopMemo();
        c.due("none of one", typed(x, "s1"), 0);
        c.due("none of three", typed(x, "-0;r;r"), 0);
        c.due("one of one", typed(x, "r"), 1);
        c.due("one of two", typed(x, "r;s1"), 1);
        c.due("thirty of thirty", typed(x, "r;".repeat(29) + "r"), 30);
        c.due("29 of 30", typed(x, "r;".repeat(28) + "r;-0"), 29);
    }

    private static void carryOutWithAFault(Check c) {
        LoopMemo x = new LoopMemo();
        c.due("an empty pad", x.carryOut(), LoopMemo.NOT_POSSIBLE);
        String[] faulty = {"s", "s0", "r;", "+1:5;+1", "-20", "1:5", "r,r", "+1:1;s21", "+1:1;-"};
        for (String text : faulty) {
            Check.type(x, text);
            c.due("carryOut() of " + text, x.carryOut(), LoopMemo.NOT_POSSIBLE);
            c.due("the pad stays", x.count(18), text.length());
        }
        c.due("no row came", x.count(1), 0);
        c.due("it is no change", x.count(19), 0);
        c.due("there is nothing to tell", x.why(0), LoopMemo.NOT_FOUND);
        x.append('0');
        c.due("mended", x.carryOut(), 2);
    }

    private static void dueWhy(Check c, String at, LoopMemo x, int error, int number, int position) {
        c.due(at + ": why(0)", x.why(0), error);
        c.due(at + ": why(1)", x.why(1), number);
        c.due(at + ": why(2)", x.why(2), position);
    }

    private static void whyTellsOfTheLatest(Check c) {
        LoopMemo x = new LoopMemo();
        typed(x, "r;-19");
        dueWhy(c, "a stop", x, -1, 1, 2);
        typed(x, "r;r;s1");
        dueWhy(c, "a later stop", x, -2, 2, 4);
        typed(x, "r;s0");
        dueWhy(c, "a call that returned an error", x, -2, 2, 4);
        x.clear();
        x.carryOut();
        dueWhy(c, "another call that returned an error", x, -2, 2, 4);
        x.step(1);
        x.add(true, 10, 0);
        x.forget();
        x.clear();
        dueWhy(c, "other calls", x, -2, 2, 4);
        typed(x, "r");
        dueWhy(c, "a call without a stop", x, -4, -4, -4);
        typed(x, "s1");
        dueWhy(c, "a stop at the first deed", x, -2, 0, 0);
    }

    private static void whyIsNotUndone(Check c) {
        LoopMemo x = new LoopMemo();
        x.save();
        typed(x, "r;-19");
        x.undo();
        dueWhy(c, "behind undo()", x, -1, 1, 2);
        x.restore();
        dueWhy(c, "behind restore()", x, -1, 1, 2);
        x.save();
        typed(x, "r");
        x.restore();
        dueWhy(c, "a call without a stop, behind restore()", x, -4, -4, -4);
        x.undo();
        x.undo();
        dueWhy(c, "a call without a stop, behind undo()", x, -4, -4, -4);
    }

    private static void whyTellsTheError(Check c) {
        LoopMemo x = new LoopMemo();
        typed(x, "-0");
        c.due("no such row", x.why(0), LoopMemo.INVALID_ARGUMENT);
        typed(x, "s1");
        c.due("a loop that is done", x.why(0), LoopMemo.NOT_POSSIBLE);
        for (int i = 0; i < 20; i++) {
            x.add(true, 3, 3);
        }
        typed(x, "+1:1");
        c.due("a table that is full", x.why(0), LoopMemo.LIMIT_REACHED);
        typed(x, "-19;-19");
        c.due("the row that went", x.why(0), LoopMemo.INVALID_ARGUMENT);
    }

    private static void whyTellsTheNumber(Check c) {
        for (int number = 0; number <= 29; number++) {
            LoopMemo x = new LoopMemo();
            c.due("carryOut() that stops at " + number, typed(x, "r;".repeat(number) + "s1"), number);
            c.due("its number", x.why(1), number);
        }
        LoopMemo y = new LoopMemo();
        typed(y, "r;-0;s1;s1");
        c.due("the first one of several", y.why(1), 1);
    }

    private static void whyTellsThePosition(Check c) {
        LoopMemo x = new LoopMemo();
        typed(x, "-0");
        c.due("the first deed", x.why(2), 0);
        typed(x, "+1:99;-0;r;+2:0;s1;r");
        c.due("behind deeds of all lengths", x.why(2), 16);
        typed(x, "-0;+1:1;-0;-10;r");
        c.due("behind a deed of another sign", x.why(2), 11);
        typed(x, "r;".repeat(29) + "r");
        typed(x, "+1:1;".repeat(10) + "r;r;r;-19");
        c.due("the last deed of a long pad", x.why(2), 56);
    }

    private static void whyTakesWhats(Check c) {
        LoopMemo x = new LoopMemo();
        c.due("why(-1), no such call", x.why(-1), LoopMemo.INVALID_ARGUMENT);
        c.due("why(3), no such call", x.why(3), LoopMemo.INVALID_ARGUMENT);
        typed(x, "r;-0");
        c.due("why(-1)", x.why(-1), LoopMemo.INVALID_ARGUMENT);
        c.due("why(3)", x.why(3), LoopMemo.INVALID_ARGUMENT);
        for (int what : FAR) {
            c.due("why(" + what + ")", x.why(what), LoopMemo.INVALID_ARGUMENT);
        }
        c.due("the least", x.why(0), LoopMemo.INVALID_ARGUMENT);
        c.due("the greatest", x.why(2), 2);
    }

    private static void whyWithoutAStop(Check c) {
        LoopMemo x = new LoopMemo();
        dueWhy(c, "no call", x, -4, -4, -4);
        x.carryOut();
        dueWhy(c, "a call that returned an error", x, -4, -4, -4);
        typed(x, "r;r;r");
        dueWhy(c, "all are carried out", x, -4, -4, -4);
        typed(x, "r;s1");
        typed(x, "r");
        dueWhy(c, "all are carried out, behind a stop", x, -4, -4, -4);
    }
}
