/** Boundary cases of the term Texts, and of the promises 24 to 27. */
public final class EdgesOfTextsTest {
    private static final int MIN = Integer.MIN_VALUE;
    private static final int MAX = Integer.MAX_VALUE;
    private static final int FORM = 1;
    private static final int MISSING_ONE = 2;
    private static final int OTHERWISE = 3;

    public static void main(String[] args) {
        Sentences.testAll(EdgesOfTextsTest.class);
    }

    /** Goods 0 to 2 in the slots 0 to 2, the last one heavy; good 3 in none. */
    private static PickSlots prepared() {
        PickSlots x = new PickSlots();
        x.good(5, 10);
        x.good(5, 200);
        x.good(20, 10);
        x.good(1, 10);
        x.place(0, 0);
        x.place(1, 1);
        x.place(2, 2);
        x.deliver(0, 30);
        x.deliver(1, 400);
        return x;
    }

    private static void fault(PickSlots x, String text, int position, int reason) {
        Check.retype(x, text);
        Check.due("position in " + text, x.fault(0), position);
        Check.due("reason in " + text, x.fault(1), reason);
    }

    private static void fault(String text, int position, int reason) {
        fault(prepared(), text, position, reason);
    }

    private static void right(String text) {
        fault(text, Check.MISSING, Check.MISSING);
    }

    // ---- Texts

    @Sentence("There is a text of at most 60 characters, initially empty")
    static void atMost60Characters() {
        PickSlots x = new PickSlots();
        Check.due("initially", x.count(9), 0);
        Check.due("nothing to clear", x.clearText(), 0);
        Check.typeText(x, "w;".repeat(30));
        Check.due("the 61st", x.type('w'), Check.LIMIT);
        Check.due("60 are there", x.count(9), 60);
        Check.due("the 60th is read", x.fault(0), Check.MISSING);
        Check.due("cleared", x.clearText(), 60);
        Check.typeText(x, "w;".repeat(29) + "ww");
        Check.due("an order that does not end with the 60th", x.fault(0), 58);
    }

    @Sentence("orders, each followed by \";\"")
    static void eachOrderIsFollowedByASign() {
        right("");
        right("p0,1;");
        right("w;w;");
        fault("p0,1", 0, FORM);
        fault("r0", 0, FORM);
        fault("m0,9", 0, FORM);
        fault("x0,1", 0, FORM);
        fault("w", 0, FORM);
        fault("w;w", 2, FORM);
        fault("ww;", 0, FORM);
        fault("w;;", 2, FORM);
        fault(";", 0, FORM);
        fault(";w;", 0, FORM);
        fault("w:", 0, FORM);
    }

    @Sentence("\"p\" a good \",\" units (a pick), \"r\" a good (a refill), \"m\" a good \",\" a slot (a move), "
            + "\"x\" a good \",\" a good (an exchange), or \"w\" (the week ends)")
    static void formsOfOrders() {
        for (String form : new String[] {"p0,1;", "r0;", "m0,9;", "x0,1;", "w;"}) {
            right(form);
            for (int cut = 1; cut < form.length(); cut++) {
                fault(form.substring(0, cut), 0, FORM);
                fault(form.substring(cut), 0, FORM);
            }
            fault(" " + form, 0, FORM);
            fault(form + " ", form.length(), FORM);
            fault(form.toUpperCase(), 0, FORM);
            fault(form.replace(";", " ;"), 0, FORM);
            fault(form.replace(";", ",;"), 0, FORM);
        }
        String[] wrong = {"p0;", "m0;", "x0;", "r0,1;", "w0;", "w,;", "p0,1,1;", "p,1;", "p0,;", "p0.1;", "p0 1;",
            "p 0,1;", "p0, 1;", "p-1,1;", "p0,-1;", "r;", "r-0;", "q0;", "o0,1;", "l0,9;", "n0,9;", "y0,1;", "v;", "s0;"};
        for (String text : wrong) {
            fault(text, 0, FORM);
        }
    }

    @Sentence("all numbers of 1 to 3 digits, zeros in front allowed.")
    static void numbersOf1To3Digits() {
        String[] right = {"p0,1;", "p00,01;", "p000,001;", "p0,001;", "p000,1;", "r0;", "r00;", "r000;", "m0,9;", "m00,09;",
            "m000,009;", "m001,059;", "x0,1;", "x00,01;", "x000,001;", "p1,200;", "p001,200;"};
        for (String text : right) {
            right(text);
        }
        String[] wrong = {"p,1;", "p0,;", "p,;", "r;", "m,9;", "m0,;", "x,1;", "x0,;", "p0000,1;", "p0,0001;",
            "r0000;", "m0000,9;", "m0,0009;", "x0000,1;", "x0,0001;", "p1000,1;", "m0,1000;"};
        for (String text : wrong) {
            fault(text, 0, FORM);
        }
        for (String sign : new String[] {"/", ":"}) { // beside 0 and 9
            fault("r" + sign + ";", 0, FORM);
            fault("p0,1" + sign + ";", 0, FORM);
        }
        fault("r9;", 0, MISSING_ONE);
        fault("r999;", 0, MISSING_ONE);
        fault("p0,999;", 0, OTHERWISE);
    }

    @Sentence("The fault of the text is the position, from 0, of the first character of the first order that is not possible")
    static void positionOfTheFirstFault() {
        fault("?", 0, FORM);
        fault("w;?", 2, FORM);
        fault("p0,1;r0;m0,9;x0,1;w;?", 20, FORM);
        fault("p00,001;p4,1;p0,0;?", 8, MISSING_ONE);
        fault("p0,0;p4,1;", 0, OTHERWISE);
        fault("w;".repeat(29) + "w", 58, FORM);
        fault("w;".repeat(29) + "?;", 58, FORM);
        fault("w;".repeat(28) + "r3;", 56, OTHERWISE);
        fault("w;".repeat(28) + "r4;", 56, MISSING_ONE);
        fault("w;".repeat(29) + "w?", 58, FORM);
        fault("?".repeat(60), 0, FORM);
        fault("w;".repeat(20) + "?".repeat(20), 40, FORM);
    }

    @Sentence("its reason is the first of these: 1 it is not of this form, its \";\" included")
    static void reason1RatherThan2And3() {
        fault("p4,1", 0, FORM);
        fault("p4,1?", 0, FORM);
        fault("r4", 0, FORM);
        fault("m0,60", 0, FORM);
        fault("x4,4", 0, FORM);
        fault("p0,0", 0, FORM);
        fault("p0,201?", 0, FORM);
        fault("r3", 0, FORM);
        fault("m0,1", 0, FORM);
        fault("x0,0", 0, FORM);
        fault("r1;r1", 3, FORM);
    }

    @Sentence("2 there is no such good or slot")
    static void reason2OfGoodsAndSlots() {
        fault("p4,1;", 0, MISSING_ONE);
        fault("r4;", 0, MISSING_ONE);
        fault("m4,9;", 0, MISSING_ONE);
        fault("x4,0;", 0, MISSING_ONE);
        fault("x0,4;", 0, MISSING_ONE);
        fault("m0,60;", 0, MISSING_ONE);
        fault("m0,999;", 0, MISSING_ONE);
        right("m0,59;");
        right("m1,059;");
        PickSlots none = new PickSlots();
        fault(none, "r0;", 0, MISSING_ONE);
        fault(none, "m0,0;", 0, MISSING_ONE);
        PickSlots all = Made.light(20);
        all.place(19, 1);
        all.deliver(19, 5);
        fault(all, "p19,1;", Check.MISSING, Check.MISSING);
        fault(all, "p20,1;", 0, MISSING_ONE);
        fault(all, "r018;", 0, OTHERWISE);
    }

    @Sentence("2 there is no such good or slot")
    static void reason2RatherThan3() {
        fault("p4,0;", 0, MISSING_ONE);
        fault("p4,201;", 0, MISSING_ONE);
        fault("x4,4;", 0, MISSING_ONE);
        fault("x3,4;", 0, MISSING_ONE);
        fault("x4,3;", 0, MISSING_ONE);
        fault("m3,60;", 0, MISSING_ONE);
        fault("m4,0;", 0, MISSING_ONE);
    }

    @Sentence("3 it is not possible otherwise (by what pick, refill, move, exchange and endWeek tell, "
            + "units out of range and a good with itself, too)")
    static void reason3() {
        fault("p0,0;", 0, OTHERWISE);
        fault("p1,201;", 0, OTHERWISE);
        fault("p1,999;", 0, OTHERWISE);
        right("p1,1;");
        right("p1,200;");
        fault("p0,11;", 0, OTHERWISE);
        right("p0,10;");
        fault("p2,1;", 0, OTHERWISE);
        fault("p3,1;", 0, OTHERWISE);
        fault("p3,0;", 0, OTHERWISE);
        fault("r3;", 0, OTHERWISE);
        fault("r2;", 0, OTHERWISE);
        fault("m3,9;", 0, OTHERWISE);
        fault("m0,0;", 0, OTHERWISE);
        fault("m0,1;", 0, OTHERWISE);
        fault("m2,9;", 0, OTHERWISE);
        right("m2,8;");
        fault("x0,0;", 0, OTHERWISE);
        fault("x3,3;", 0, OTHERWISE);
        fault("x0,3;", 0, OTHERWISE);
        fault("x3,0;", 0, OTHERWISE);
        right("x0,2;");
        right("x2,0;");
    }

    @Sentence("3 it is not possible otherwise (by what pick, refill, move, exchange and endWeek tell")
    static void reason3OfTooHeavyGoods() {
        PickSlots x = new PickSlots();
        x.good(21, 1);
        x.good(20, 1);
        x.good(1, 1);
        x.place(0, 0);
        x.place(1, 2);
        x.place(2, 8);
        fault(x, "x0,1;", 0, OTHERWISE);
        fault(x, "x1,0;", 0, OTHERWISE);
        fault(x, "x1,2;x2,1;", Check.MISSING, Check.MISSING);
        fault(x, "m0,14;", 0, OTHERWISE);
        fault(x, "m1,14;", Check.MISSING, Check.MISSING);
    }

    @Sentence("3 it is not possible otherwise (by what pick, refill, move, exchange and endWeek tell")
    static void reason3OfWeek1000() {
        PickSlots x = new PickSlots();
        Made.endWeeks(x, 999);
        fault(x, "w;", Check.MISSING, Check.MISSING);
        fault(x, "w;w;", 2, OTHERWISE);
        Check.due("play", x.play(), Check.IMPOSSIBLE);
        Check.due("still week 999", x.count(2), 999);
        Check.retype(x, "w;");
        Check.due("play", x.play(), 1);
        Check.due("the last week", x.count(2), 1000);
        Check.due("reason then", x.fault(1), OTHERWISE);
    }

    @Sentence("when the orders ahead of it are done.")
    static void ordersAheadAreDone() {
        right("p0,10;p0,10;p0,10;");
        fault("p0,10;p0,10;p0,10;p0,1;", 18, OTHERWISE);
        right("r0;p0,1;r0;");
        fault("r0;r0;", 3, OTHERWISE);
        right("m0,9;m1,0;");
        fault("m0,9;m1,9;", 5, OTHERWISE);
        fault("m1,0;m0,9;", 0, OTHERWISE);
        right("m0,9;m2,0;");
        right("x0,2;x2,0;");
        fault("x1,2;m1,59;m2,59;", 11, OTHERWISE);
        fault("r0;p0,5;r0;r0;", 11, OTHERWISE);
        PickSlots x = prepared();
        x.set(2, 0);
        fault(x, "p0,1;", 0, OTHERWISE);
        fault(x, "r0;p0,10;", Check.MISSING, Check.MISSING);
        fault(x, "r0;p0,10;p0,1;", 9, OTHERWISE);
    }

    // ---- Promises 24 to 27

    @Sentence("Returns the length of the text; INVALID_ARGUMENT if character is out of range; "
            + "LIMIT_REACHED if it has 60 characters.")
    static void promise24Answers() {
        PickSlots x = new PickSlots();
        for (int character : new int[] {31, 127, -1, 0, 128, 256 + 'w', 65536 + 'w', MIN, MAX}) {
            Check.due("type " + character, x.type(character), Check.INVALID);
        }
        Check.due("empty", x.count(9), 0);
        Check.due("32", x.type(32), 1);
        Check.due("126", x.type(126), 2);
        for (int length = 3; length <= 60; length++) {
            Check.due("type", x.type(48), length);
        }
        Check.due("one more", x.type(48), Check.LIMIT);
        x.clearText();
        Check.due("behind clearing", x.type(48), 1);
    }

    @Sentence("Returns the length it had.")
    static void promise25Lengths() {
        PickSlots x = new PickSlots();
        for (int length : new int[] {0, 1, 2, 59, 60}) {
            Check.typeText(x, "~".repeat(length));
            Check.due("length", x.clearText(), length);
            Check.due("empty then", x.count(9), 0);
        }
        Check.due("nothing of it is left", x.fault(0), Check.MISSING);
        Check.due("and none to play", x.play(), 0);
    }

    @Sentence("Returns that; INVALID_ARGUMENT if what is out of range; NOT_FOUND if the text has no fault "
            + "(also if it is empty).")
    static void promise26Answers() {
        PickSlots x = new PickSlots();
        Check.due("empty: position", x.fault(0), Check.MISSING);
        Check.due("empty: reason", x.fault(1), Check.MISSING);
        for (int what : new int[] {-1, 2, MIN, MAX}) {
            Check.due("empty: " + what, x.fault(what), Check.INVALID);
        }
        fault(x, "w;", Check.MISSING, Check.MISSING);
        fault(x, "w", 0, FORM);
        for (int what : new int[] {-1, 2, MIN, MAX}) {
            Check.due("with a fault: " + what, x.fault(what), Check.INVALID);
        }
        fault(x, "w;w;", Check.MISSING, Check.MISSING);
        x.clearText();
        Check.due("empty again", x.fault(0), Check.MISSING);
    }

    @Sentence("Tells about the fault of the text.")
    static void promise26ChangesNothing() {
        PickSlots x = prepared();
        String before = Made.whole(x);
        fault(x, "p0,1;r0;m0,9;w;x0,1;", Check.MISSING, Check.MISSING);
        fault(x, "p0,1;r0;m0,9;w;x0,0;", 15, OTHERWISE);
        Check.due("states", x.count(8), 4);
        Check.due("text", x.count(9), 20);
        Check.holds("nothing is changed", before.equals(Made.whole(x)));
    }

    @Sentence("Does all orders of the text, which stays. They are one change, also if there are none.")
    static void promise27OneChange() {
        PickSlots x = new PickSlots();
        Check.due("none", x.play(), 0);
        Check.due("is a change", x.count(8), 1);
        x.set(0, 5);
        Check.due("none again", x.play(), 0);
        Check.due("undo", x.undo(), 2);
        Check.due("only the play is undone", x.count(20), 5);
        Check.typeText(x, "w;".repeat(30));
        Check.due("30", x.play(), 30);
        Check.due("are one change", x.count(8), 3);
        Check.due("the text stays", x.count(9), 60);
        Check.due("30 more", x.play(), 30);
        Check.due("all are done", x.count(2), 60);
        Check.due("undo", x.undo(), 3);
        Check.due("all of them are undone", x.count(2), 30);
        Check.due("the text stays still", x.count(9), 60);
    }

    @Sentence("Returns how many there are in it; NOT_POSSIBLE if it has a fault.")
    static void promise27Answers() {
        PickSlots x = prepared();
        String[] texts = {"", "w;", "r0;w;", "p1,1;p1,1;p1,1;", "p0,1;r0;m0,9;x0,1;w;"};
        for (int orders = 0; orders < 4; orders++) {
            Check.retype(x, texts[orders]);
            Check.due("play of " + texts[orders], x.play(), orders);
        }
        int units = x.goodOf(1, 10);
        int states = x.count(8);
        for (String text : new String[] {"?", "p1,1;?", "p1,1;p1,1", "p1,1;r4;", "p1,1;x1,1;"}) {
            Check.retype(x, text);
            Check.due("play of " + text, x.play(), Check.IMPOSSIBLE);
            Check.due("the text stays", x.count(9), text.length());
        }
        Check.due("orders ahead of a fault are not done", x.goodOf(1, 10), units);
        Check.due("it is no change", x.count(8), states);
    }
}
