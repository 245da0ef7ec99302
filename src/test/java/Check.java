/** Compares answers with what is due, and ends a test with exit code 1 if one was not as due. */
final class Check {
    static final int INVALID = -1;
    static final int IMPOSSIBLE = -2;
    static final int LIMIT = -3;
    static final int MISSING = -4;
    static final int RAISE = 100000000;
    /** Arguments that are out of every range. */
    static final int[] WILD = {-1, -2, Integer.MIN_VALUE, 1000000, Integer.MAX_VALUE};

    private static int wrong = 0;
    private static int asked = 0;
    private static String about = "";

    private Check() {
    }

    /** What is printed ahead of the calls that are not answered as is due. */
    static void begin(String test) {
        about = test;
    }

    static void due(String call, long got, long want) {
        asked++;
        if (got != want) {
            wrong++;
            System.out.println(about + call + " answered " + got + ", due is " + want);
        }
    }

    static void holds(String what, boolean is) {
        due(what, is ? 1 : 0, 1);
    }

    static void end() {
        System.out.println(wrong == 0 ? asked + " answers are as due"
                : wrong + " of " + asked + " answers are not as due");
        if (wrong != 0) {
            System.exit(1);
        }
    }

    static void typeText(PickSlots x, String text) {
        for (int i = 0; i < text.length(); i++) {
            due("type of sign " + i + " of " + text, x.type(text.charAt(i)), i + 1);
        }
    }

    /** Empties the text and types this one. */
    static void retype(PickSlots x, String text) {
        x.clearText();
        typeText(x, text);
    }

    static void ignore(int answer) {
    }
}
