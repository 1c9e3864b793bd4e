/** Counts the answers that are as due, and prints the others. */
final class Check {
    private static final int MOST_PRINTED = 40;

    private String about = "";
    private int right;
    private int wrong;

    /** What is told wrong from here on is told with this ahead. */
    void begin(String name) {
        about = name + ": ";
    }

    int answers() {
        return right + wrong;
    }

    void due(String call, long got, long want) {
        if (got == want) {
            right++;
        } else {
            tellWrong(call + " answered " + got + ", due is " + want);
        }
    }

    void dueDouble(String call, double got, double want) {
        if (got == want) {
            right++;
        } else {
            tellWrong(call + " answered " + got + ", due is " + want);
        }
    }

    void dueText(String what, String got, String want) {
        if (got.equals(want)) {
            right++;
        } else {
            tellWrong(what + " is " + got + ", due is " + want);
        }
    }

    boolean isAllRight() {
        return wrong == 0;
    }

    void end() {
        System.out.println(right + " answers as due, " + wrong + " not");
        if (wrong != 0 || right == 0) {
            System.exit(1);
        }
    }

    private void tellWrong(String text) {
        wrong++;
        if (wrong <= MOST_PRINTED) {
            System.out.println(about + text);
        }
    }

    /** Puts a text in place of what the pad holds. */
    static void type(LoopMemo x, String text) {
        x.clear();
        for (int i = 0; i < text.length(); i++) {
            x.append(text.charAt(i));
        }
    }

    /** Adds rows that are told as in the pad, without using the pad. */
    static void addRows(LoopMemo x, boolean inner, String text) {
        for (String row : text.split(",")) {
            String[] parts = row.split(":");
            x.add(inner, Integer.parseInt(parts[0]), Integer.parseInt(parts[1]));
        }
    }
}
