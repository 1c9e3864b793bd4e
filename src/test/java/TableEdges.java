/** A test for each sentence of 'Tables' and of promises 1 to 4 and 15. */
final class TableEdges {
    private static final boolean[] TABLES = {true, false};
    private static final int[] FAR = {Integer.MIN_VALUE, Integer.MIN_VALUE + 1, -100, Integer.MAX_VALUE - 1,
        Integer.MAX_VALUE};

    private TableEdges() {
    }

    static void all(Sentences s) {
        s.section("Tables");
        s.holds("There are an outer and an inner table", TableEdges::twoTables);
        s.holds("each of at most 20 rows", TableEdges::atMost20Rows);
        s.holds("numbered from 0 in the order in which they came", TableEdges::numberedAsTheyCame);
        s.holds("(when one goes, those with greater numbers get numbers that are 1 less)",
                TableEdges::greaterNumbersAreOneLess);
        s.holds("A row has a key, 0 to 9", TableEdges::tenKeys);
        s.holds("and a value, 0 to 99", TableEdges::hundredValues);

        s.section("Promise 1: A new object");
        s.holds("LoopMemo(): Creates two empty tables.", TableEdges::newObjectIsEmpty);

        s.section("Promise 2: add");
        s.holds("int add(boolean inner, int key, int value): A row comes, behind the others.",
                TableEdges::addedBehindTheOthers);
        s.holds("inner: whether it is one of the inner table, otherwise of the outer one", TableEdges::addedToTheTable);
        s.holds("key: 0 to 9", TableEdges::addTakesKeys);
        s.holds("value: 0 to 99", TableEdges::addTakesValues);
        s.holds("Returns its number; INVALID_ARGUMENT;", TableEdges::addReturnsTheNumber);
        s.holds("LIMIT_REACHED if the table has 20.", TableEdges::addIntoAFullTable);

        s.section("Promise 3: drop");
        s.holds("int drop(boolean inner, int row): A row goes.", TableEdges::dropTakesOneAway);
        s.holds("inner: whether it is one of the inner table, otherwise of the outer one", TableEdges::dropOfTheTable);
        s.holds("row: its number", TableEdges::dropTakesNumbers);
        s.holds("Returns how many rows the table has left; INVALID_ARGUMENT.", TableEdges::dropReturnsWhatIsLeft);

        s.section("Promise 4: change");
        s.holds("int change(int row, int key, int value): A row of the inner table gets another key and value.",
                TableEdges::changeGivesAnother);
        s.holds("row: its number", TableEdges::changeTakesNumbers);
        s.holds("key: 0 to 9", TableEdges::changeTakesKeys);
        s.holds("value: 0 to 99", TableEdges::changeTakesValues);
        s.holds("Returns how many answers are remembered then; INVALID_ARGUMENT.", TableEdges::changeReturnsRemembered);

        s.section("Promise 15: row");
        s.holds("int row(boolean inner, int row, int what): Returns a number of a row.", TableEdges::rowOfAFullTable);
        s.holds("inner: whether it is one of the inner table, otherwise of the outer one", TableEdges::rowOfTheTable);
        s.holds("row: its number", TableEdges::rowTakesNumbers);
        s.holds("what: 0: its key; 1: its value;", TableEdges::rowTellsKeyAndValue);
        s.holds("2: of an outer row 1 if the loop has done it, otherwise 0;", TableEdges::rowTellsWhatIsDone);
        s.holds("of an inner row 1 if it is in a remembered answer, otherwise 0", TableEdges::rowTellsWhatIsRemembered);
        s.holds("Returns the number; INVALID_ARGUMENT.", TableEdges::rowTakesWhats);
    }

    /** A full table: row i has the key i % 10 and the value 5 * i. */
    private static LoopMemo full(boolean inner) {
        LoopMemo x = new LoopMemo();
        for (int i = 0; i < 20; i++) {
            x.add(inner, i % 10, 5 * i);
        }
        return x;
    }

    private static int rows(LoopMemo x, boolean inner) {
        return x.count(inner ? 1 : 0);
    }

    private static void twoTables(Check c) {
        LoopMemo x = new LoopMemo();
        c.due("the first inner row", x.add(true, 1, 10), 0);
        c.due("the first outer row", x.add(false, 2, 20), 0);
        c.due("the second outer row", x.add(false, 3, 30), 1);
        c.due("inner rows", x.count(1), 1);
        c.due("outer rows", x.count(0), 2);
        c.due("key of inner row 0", x.row(true, 0, 0), 1);
        c.due("key of outer row 0", x.row(false, 0, 0), 2);
        c.due("the inner one goes", x.drop(true, 0), 0);
        c.due("outer rows stay", x.count(0), 2);
        c.due("key of outer row 0", x.row(false, 0, 0), 2);
    }

    private static void atMost20Rows(Check c) {
        for (boolean inner : TABLES) {
            LoopMemo x = full(inner);
            c.due("rows", rows(x, inner), 20);
            c.due("one more", x.add(inner, 1, 1), LoopMemo.LIMIT_REACHED);
            c.due("rows", rows(x, inner), 20);
            c.due("no row 20", x.row(inner, 20, 0), LoopMemo.INVALID_ARGUMENT);
            c.due("one in the other table", x.add(!inner, 1, 1), 0);
            c.due("one goes", x.drop(inner, 7), 19);
            c.due("one comes", x.add(inner, 1, 1), 19);
            c.due("one more", x.add(inner, 1, 1), LoopMemo.LIMIT_REACHED);
        }
    }

    private static void numberedAsTheyCame(Check c) {
        for (boolean inner : TABLES) {
            LoopMemo x = new LoopMemo();
            for (int i = 0; i < 20; i++) {
                c.due("the number of row " + i, x.add(inner, 9 - i % 10, 99 - i), i);
            }
            for (int i = 0; i < 20; i++) {
                c.due("the value of row " + i, x.row(inner, i, 1), 99 - i);
            }
        }
    }

    private static void greaterNumbersAreOneLess(Check c) {
        for (boolean inner : TABLES) {
            for (int gone = 0; gone < 20; gone++) {
                LoopMemo x = full(inner);
                x.drop(inner, gone);
                for (int i = 0; i < 19; i++) {
                    int was = i < gone ? i : i + 1;
                    c.due(gone + " went: the key of row " + i, x.row(inner, i, 0), was % 10);
                    c.due(gone + " went: the value of row " + i, x.row(inner, i, 1), 5 * was);
                }
                c.due(gone + " went: no row 19", x.row(inner, 19, 1), LoopMemo.INVALID_ARGUMENT);
            }
        }
    }

    private static void tenKeys(Check c) {
        for (boolean inner : TABLES) {
            LoopMemo x = new LoopMemo();
            for (int key = 0; key <= 9; key++) {
                c.due("a row with the key " + key, x.add(inner, key, 50), key);
                c.due("its key", x.row(inner, key, 0), key);
            }
            c.due("a row with the key -1", x.add(inner, -1, 50), LoopMemo.INVALID_ARGUMENT);
            c.due("a row with the key 10", x.add(inner, 10, 50), LoopMemo.INVALID_ARGUMENT);
        }
    }

    private static void hundredValues(Check c) {
        for (boolean inner : TABLES) {
            LoopMemo x = new LoopMemo();
            for (int value = 0; value <= 99; value++) {
                x.add(inner, 5, value);
                c.due("the value " + value, x.row(inner, 0, 1), value);
                x.drop(inner, 0);
            }
            c.due("a row with the value -1", x.add(inner, 5, -1), LoopMemo.INVALID_ARGUMENT);
            c.due("a row with the value 100", x.add(inner, 5, 100), LoopMemo.INVALID_ARGUMENT);
        }
    }

    private static void newObjectIsEmpty(Check c) {
        LoopMemo other = full(true);
        LoopMemo x = new LoopMemo();
        c.due("outer rows", x.count(0), 0);
        c.due("inner rows", x.count(1), 0);
        c.due("no inner row 0", x.row(true, 0, 0), LoopMemo.INVALID_ARGUMENT);
        c.due("no outer row 0", x.row(false, 0, 0), LoopMemo.INVALID_ARGUMENT);
        c.due("nothing is found", x.answer(0, 0), 0);
        c.due("the total", x.total(0), 0);
        c.due("the other object's rows stay", other.count(1), 20);
    }

    private static void addedBehindTheOthers(Check c) {
        for (boolean inner : TABLES) {
            LoopMemo x = new LoopMemo();
            Check.addRows(x, inner, "5:50,6:60,7:70");
            x.drop(inner, 0);
            c.due("add()", x.add(inner, 1, 10), 2);
            c.due("the first one", x.row(inner, 0, 0), 6);
            c.due("the second one", x.row(inner, 1, 0), 7);
            c.due("the last one", x.row(inner, 2, 0), 1);
        }
    }

    private static void addedToTheTable(Check c) {
        LoopMemo x = new LoopMemo();
        x.add(true, 1, 10);
        c.due("inner rows behind add(true, ..)", x.count(1), 1);
        c.due("outer rows behind add(true, ..)", x.count(0), 0);
        LoopMemo y = new LoopMemo();
        y.add(false, 1, 10);
        c.due("inner rows behind add(false, ..)", y.count(1), 0);
        c.due("outer rows behind add(false, ..)", y.count(0), 1);
    }

    private static void addTakesKeys(Check c) {
        for (boolean inner : TABLES) {
            LoopMemo x = new LoopMemo();
            c.due("one below the least", x.add(inner, -1, 0), LoopMemo.INVALID_ARGUMENT);
            c.due("one above the greatest", x.add(inner, 10, 0), LoopMemo.INVALID_ARGUMENT);
            for (int key : FAR) {
                c.due("add(.., " + key + ", 0)", x.add(inner, key, 0), LoopMemo.INVALID_ARGUMENT);
            }
            c.due("no row came", rows(x, inner), 0);
            c.due("the least", x.add(inner, 0, 0), 0);
            c.due("the greatest", x.add(inner, 9, 0), 1);
        }
    }

    private static void addTakesValues(Check c) {
        for (boolean inner : TABLES) {
            LoopMemo x = new LoopMemo();
            c.due("one below the least", x.add(inner, 0, -1), LoopMemo.INVALID_ARGUMENT);
            c.due("one above the greatest", x.add(inner, 0, 100), LoopMemo.INVALID_ARGUMENT);
            for (int value : FAR) {
                c.due("add(.., 0, " + value + ")", x.add(inner, 0, value), LoopMemo.INVALID_ARGUMENT);
            }
            c.due("no row came", rows(x, inner), 0);
            c.due("the least", x.add(inner, 0, 0), 0);
            c.due("the greatest", x.add(inner, 0, 99), 1);
        }
    }

    private static void addReturnsTheNumber(Check c) {
        for (boolean inner : TABLES) {
            LoopMemo x = new LoopMemo();
            c.due("into an empty table", x.add(inner, 1, 1), 0);
            c.due("a wrong row gets no number", x.add(inner, 10, 100), LoopMemo.INVALID_ARGUMENT);
            c.due("behind one", x.add(inner, 1, 1), 1);
            x.drop(inner, 1);
            c.due("behind one again", x.add(inner, 1, 1), 1);
        }
    }

    private static void addIntoAFullTable(Check c) {
        for (boolean inner : TABLES) {
            LoopMemo x = full(inner);
            x.drop(inner, 19);
            c.due("with 19", x.add(inner, 1, 1), 19);
            c.due("with 20", x.add(inner, 1, 1), LoopMemo.LIMIT_REACHED);
            c.due("with 20, another row", x.add(inner, 9, 99), LoopMemo.LIMIT_REACHED);
            c.due("with 20, a wrong row", x.add(inner, 10, 1), LoopMemo.INVALID_ARGUMENT);
            c.due("the last row stays", x.row(inner, 19, 1), 1);
        }
    }

    private static void dropTakesOneAway(Check c) {
        for (boolean inner : TABLES) {
            LoopMemo x = full(inner);
            for (int left = 19; left >= 0; left--) {
                c.due("the last one goes", x.drop(inner, left), left);
                c.due("rows", rows(x, inner), left);
            }
            c.due("none is left to go", x.drop(inner, 0), LoopMemo.INVALID_ARGUMENT);
        }
    }

    private static void dropOfTheTable(Check c) {
        LoopMemo x = new LoopMemo();
        Check.addRows(x, true, "1:10,2:20");
        Check.addRows(x, false, "3:30,4:40,5:50");
        c.due("drop(true, 1)", x.drop(true, 1), 1);
        c.due("outer rows", x.count(0), 3);
        c.due("drop(false, 0)", x.drop(false, 0), 2);
        c.due("inner rows", x.count(1), 1);
        c.due("drop(true, 1), which is an outer row only", x.drop(true, 1), LoopMemo.INVALID_ARGUMENT);
        c.due("drop(false, 1)", x.drop(false, 1), 1);
    }

    private static void dropTakesNumbers(Check c) {
        for (boolean inner : TABLES) {
            LoopMemo x = new LoopMemo();
            c.due("row 0 of an empty table", x.drop(inner, 0), LoopMemo.INVALID_ARGUMENT);
            Check.addRows(x, inner, "1:10,2:20");
            Check.addRows(x, !inner, "1:10,2:20,3:30");
            c.due("row -1", x.drop(inner, -1), LoopMemo.INVALID_ARGUMENT);
            c.due("row 2 of 2", x.drop(inner, 2), LoopMemo.INVALID_ARGUMENT);
            for (int row : FAR) {
                c.due("row " + row, x.drop(inner, row), LoopMemo.INVALID_ARGUMENT);
            }
            c.due("row 1 of 2", x.drop(inner, 1), 1);
            c.due("row 0 of 1", x.drop(inner, 0), 0);
            LoopMemo y = full(inner);
            c.due("row 20 of 20", y.drop(inner, 20), LoopMemo.INVALID_ARGUMENT);
            c.due("row 19 of 20", y.drop(inner, 19), 19);
        }
    }

    private static void dropReturnsWhatIsLeft(Check c) {
        for (boolean inner : TABLES) {
            LoopMemo x = full(inner);
            x.add(!inner, 1, 1);
            c.due("of 20", x.drop(inner, 0), 19);
            c.due("a wrong one", x.drop(inner, 19), LoopMemo.INVALID_ARGUMENT);
            c.due("of 19", x.drop(inner, 18), 18);
            c.due("the only one of the other table", x.drop(!inner, 0), 0);
        }
    }

    private static void changeGivesAnother(Check c) {
        LoopMemo x = full(true);
        x.add(false, 3, 33);
        for (int row = 0; row < 20; row += 19) {
            x.change(row, 7, 77);
            c.due("its key", x.row(true, row, 0), 7);
            c.due("its value", x.row(true, row, 1), 77);
        }
        c.due("the row behind the first", x.row(true, 1, 1), 5);
        c.due("the row ahead of the last", x.row(true, 18, 1), 90);
        c.due("inner rows", x.count(1), 20);
        c.due("the outer row stays", x.row(false, 0, 1), 33);
    }

    private static void changeTakesNumbers(Check c) {
        LoopMemo x = new LoopMemo();
        Check.addRows(x, false, "1:10,2:20,3:30");
        c.due("row 0 of an empty table", x.change(0, 1, 1), LoopMemo.INVALID_ARGUMENT);
        Check.addRows(x, true, "1:10,2:20");
        c.due("row -1", x.change(-1, 1, 1), LoopMemo.INVALID_ARGUMENT);
        c.due("row 2 of 2", x.change(2, 1, 1), LoopMemo.INVALID_ARGUMENT);
        for (int row : FAR) {
            c.due("row " + row, x.change(row, 1, 1), LoopMemo.INVALID_ARGUMENT);
        }
        c.due("row 0 of 2", x.change(0, 1, 1), 0);
        c.due("row 1 of 2", x.change(1, 1, 1), 0);
        LoopMemo y = full(true);
        c.due("row 20 of 20", y.change(20, 1, 1), LoopMemo.INVALID_ARGUMENT);
        c.due("row 19 of 20", y.change(19, 1, 1), 0);
    }

    private static void changeTakesKeys(Check c) {
        LoopMemo x = new LoopMemo();
        x.add(true, 5, 50);
        c.due("one below the least", x.change(0, -1, 1), LoopMemo.INVALID_ARGUMENT);
        c.due("one above the greatest", x.change(0, 10, 1), LoopMemo.INVALID_ARGUMENT);
        for (int key : FAR) {
            c.due("change(0, " + key + ", 1)", x.change(0, key, 1), LoopMemo.INVALID_ARGUMENT);
        }
        c.due("the key stays", x.row(true, 0, 0), 5);
        c.due("the value stays", x.row(true, 0, 1), 50);
        c.due("the greatest", x.change(0, 9, 1), 0);
        c.due("its key", x.row(true, 0, 0), 9);
        c.due("the least", x.change(0, 0, 1), 0);
        c.due("its key", x.row(true, 0, 0), 0);
    }

    private static void changeTakesValues(Check c) {
        LoopMemo x = new LoopMemo();
        x.add(true, 5, 50);
        c.due("one below the least", x.change(0, 1, -1), LoopMemo.INVALID_ARGUMENT);
        c.due("one above the greatest", x.change(0, 1, 100), LoopMemo.INVALID_ARGUMENT);
        for (int value : FAR) {
            c.due("change(0, 1, " + value + ")", x.change(0, 1, value), LoopMemo.INVALID_ARGUMENT);
        }
        c.due("the key stays", x.row(true, 0, 0), 5);
        c.due("the value stays", x.row(true, 0, 1), 50);
        c.due("the greatest", x.change(0, 1, 99), 0);
        c.due("its value", x.row(true, 0, 1), 99);
        c.due("the least", x.change(0, 1, 0), 0);
        c.due("its value", x.row(true, 0, 1), 0);
    }

    private static void changeReturnsRemembered(Check c) {
        LoopMemo x = new LoopMemo();
        x.set(LoopMemo.BOUND, 60);
        Check.addRows(x, true, "1:10");
        c.due("none", x.change(0, 1, 11), 0);
        for (int key = 0; key < 10; key++) {
            x.add(false, key, 1);
        }
        x.step(10);
        c.due("a wrong one", x.change(1, 1, 1), LoopMemo.INVALID_ARGUMENT);
        c.due("ten, less the two of the row", x.change(0, 2, 11), 8);
        c.due("eight, none of them of the row", x.change(0, 1, 11), 8);
        x.again();
        x.step(10);
        c.due("ten, less the one of the row", x.change(0, 1, 12), 9);
        x.set(LoopMemo.KEEPING, 2);
        x.again();
        x.step(10);
        c.due("ten, mended", x.change(0, 9, 11), 10);
        x.set(LoopMemo.KEEPING, 1);
        x.again();
        x.step(10);
        c.due("none of ten", x.change(0, 8, 11), 0);
    }

    private static void rowOfAFullTable(Check c) {
        for (boolean inner : TABLES) {
            LoopMemo x = full(inner);
            for (int row = 0; row < 20; row++) {
                c.due("the key of row " + row, x.row(inner, row, 0), row % 10);
                c.due("the value of row " + row, x.row(inner, row, 1), 5 * row);
                c.due("the mark of row " + row, x.row(inner, row, 2), 0);
            }
        }
    }

    private static void rowOfTheTable(Check c) {
        LoopMemo x = new LoopMemo();
        Check.addRows(x, true, "1:10");
        Check.addRows(x, false, "3:30,4:40");
        c.due("row(true, 0, 1)", x.row(true, 0, 1), 10);
        c.due("row(false, 0, 1)", x.row(false, 0, 1), 30);
        c.due("row(false, 1, 0)", x.row(false, 1, 0), 4);
        c.due("row(true, 1, 0), which is an outer row only", x.row(true, 1, 0), LoopMemo.INVALID_ARGUMENT);
    }

    private static void rowTakesNumbers(Check c) {
        for (boolean inner : TABLES) {
            LoopMemo x = new LoopMemo();
            Check.addRows(x, !inner, "1:10,2:20,3:30");
            for (int what = 0; what <= 2; what++) {
                c.due("row 0 of an empty table", x.row(inner, 0, what), LoopMemo.INVALID_ARGUMENT);
            }
            Check.addRows(x, inner, "1:10,2:20");
            for (int what = 0; what <= 2; what++) {
                c.due("row -1", x.row(inner, -1, what), LoopMemo.INVALID_ARGUMENT);
                c.due("row 2 of 2", x.row(inner, 2, what), LoopMemo.INVALID_ARGUMENT);
                for (int row : FAR) {
                    c.due("row " + row, x.row(inner, row, what), LoopMemo.INVALID_ARGUMENT);
                }
            }
            c.due("row 1 of 2", x.row(inner, 1, 1), 20);
            x.drop(inner, 1);
            c.due("the row that went", x.row(inner, 1, 1), LoopMemo.INVALID_ARGUMENT);
            LoopMemo y = full(inner);
            c.due("row 19 of 20", y.row(inner, 19, 1), 95);
            c.due("row 20 of 20", y.row(inner, 20, 1), LoopMemo.INVALID_ARGUMENT);
        }
    }

    private static void rowTellsKeyAndValue(Check c) {
        for (boolean inner : TABLES) {
            LoopMemo x = new LoopMemo();
            Check.addRows(x, inner, "0:99,9:0");
            c.due("the least key", x.row(inner, 0, 0), 0);
            c.due("the greatest value", x.row(inner, 0, 1), 99);
            c.due("the greatest key", x.row(inner, 1, 0), 9);
            c.due("the least value", x.row(inner, 1, 1), 0);
        }
    }

    private static void rowTellsWhatIsDone(Check c) {
        LoopMemo x = full(false);
        for (int place = 0; place <= 20; place++) {
            for (int row = 0; row < 20; row++) {
                c.due("place " + place + ": row " + row + " is done", x.row(false, row, 2), row < place ? 1 : 0);
            }
            x.step(1);
        }
        x.again();
        c.due("row 0, behind again()", x.row(false, 0, 2), 0);
        x.step(1);
        x.drop(false, 0);
        c.due("the row that follows the one that went", x.row(false, 0, 2), 0);
    }

    private static void rowTellsWhatIsRemembered(Check c) {
        LoopMemo x = new LoopMemo();
        x.set(LoopMemo.LOW, 10);
        x.set(LoopMemo.HIGH, 20);
        x.set(LoopMemo.BOUND, 5);
        Check.addRows(x, true, "1:9,1:10,1:20,1:21,2:15,1:15");
        Check.addRows(x, false, "1:1,2:1,2:1");
        int[] marks = {0, 1, 1, 0, 0, 1};
        c.due("none is remembered", x.row(true, 1, 2), 0);
        x.step(1);
        for (int row = 0; row < 6; row++) {
            c.due("1 is remembered: row " + row, x.row(true, row, 2), marks[row]);
        }
        x.step(1);
        for (int row = 0; row < 6; row++) {
            c.due("2 is remembered in its place: row " + row, x.row(true, row, 2), row == 4 ? 1 : 0);
        }
        x.set(LoopMemo.BOUND, 2);
        x.step(1);
        c.due("2 is too heavy", x.row(true, 4, 2), 0);
    }

    private static void rowTakesWhats(Check c) {
        for (boolean inner : TABLES) {
            LoopMemo x = full(inner);
            c.due("one below the least", x.row(inner, 3, -1), LoopMemo.INVALID_ARGUMENT);
            c.due("one above the greatest", x.row(inner, 3, 3), LoopMemo.INVALID_ARGUMENT);
            for (int what : FAR) {
                c.due("row(.., 3, " + what + ")", x.row(inner, 3, what), LoopMemo.INVALID_ARGUMENT);
            }
            c.due("the least", x.row(inner, 3, 0), 3);
            c.due("the greatest", x.row(inner, 3, 2), 0);
        }
    }
}
