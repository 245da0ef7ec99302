/** Promises 24 to 27: typing, faults and playing. */
public final class TextsTest {
    public static void main(String[] args) {
        promise24Type();
        promise25ClearText();
        promise26Forms();
        promise26Missing();
        promise26Impossible();
        promise26OrdersAheadAreDone();
        promise26Errors();
        promise27Play();
        promise27OneChange();
        promise27Limits();
        Check.end();
    }

    private static PickSlots prepared() {
        PickSlots x = new PickSlots();
        x.good(3, 10);
        x.good(4, 10);
        x.good(31, 10);
        x.good(1, 10);
        x.place(0, 0);
        x.place(1, 7);
        x.place(2, 6);
        x.deliver(0, 30);
        x.deliver(1, 5);
        return x;
    }

    private static void promise24Type() {
        PickSlots x = new PickSlots();
        Check.due("type 31", x.type(31), Check.INVALID);
        Check.due("type 127", x.type(127), Check.INVALID);
        for (int wild : Check.WILD) {
            Check.due("type " + wild, x.type(wild), Check.INVALID);
        }
        Check.due("type of a sign 65536 higher", x.type(65536 + 'w'), Check.INVALID);
        Check.due("empty", x.count(9), 0);
        for (int n = 1; n <= 60; n++) {
            Check.due("type", x.type(n % 2 == 0 ? 32 : 126), n);
        }
        Check.due("61st", x.type('w'), Check.LIMIT);
        Check.due("61st out of range", x.type(31), Check.INVALID);
        Check.due("length", x.count(9), 60);
        Check.due("no change", x.count(8), 0);
    }

    private static void promise25ClearText() {
        PickSlots x = new PickSlots();
        Check.due("empty", x.clearText(), 0);
        Check.typeText(x, "w;w;");
        Check.due("4", x.clearText(), 4);
        Check.due("empty again", x.clearText(), 0);
        Check.due("nothing is left", x.play(), 0);
        Check.due("typing starts anew", x.type('w'), 1);
        Check.due("the old text is gone", x.fault(1), 1);
        Check.due("clearing is no change", x.count(8), 1);
    }

    private static void fault(String text, int position, int reason) {
        PickSlots x = prepared();
        Check.typeText(x, text);
        Check.due("position of " + text, x.fault(0), position);
        Check.due("reason of " + text, x.fault(1), reason);
        Check.due("play of " + text, x.play() >= 0 ? 1 : 0, position < 0 ? 1 : 0);
    }

    private static void right(String text) {
        fault(text, Check.MISSING, Check.MISSING);
    }

    private static void promise26Forms() {
        String[] noForms = {"p", "p0", "p0,", "p0,1", "p,1;", "p0;", "p0,;", "p0 ,1;", "p0, 1;", "p 0,1;",
            "p0,1,;", "p0000,1;", "p0,0001;", "P0,1;", "p-1,1;", "p0.1;", "p0,1:", "p0,1,1;", "p0,1 ;",
            "r", "r0", "r;", "r0,1;", "r0000;", "r 0;", "R0;", "r0,;", "m", "m0,1", "m;", "m0;", "m0,;",
            "m0,0001;", "x", "x0,1", "x0;", "x;", "x0,1,3;", "w", "w0;", "w ;", "W;", "ww;", ";",
            " ", " w;", "0", "a;", "~", "p0:1;", "p0/1;", "r/;", "r:;", ",", "q0,1;"};
        for (String text : noForms) {
            fault(text, 0, 1);
            fault("w;r0;" + text, 5, 1);
        }
        fault("m0,1;;", 5, 1);
        String[] forms = {"", "w;", "p0,1;", "p00,01;", "p000,001;", "r0;", "r00;", "r000;", "m0,1;", "m000,001;",
            "m00,01;", "x0,1;", "x00,001;", "p0,10;", "w;w;p0,10;r0;m0,58;", "m0,010;"};
        for (String text : forms) {
            right(text);
        }
    }

    private static void promise26Missing() {
        fault("p4,1;", 0, 2);
        fault("p999,1;", 0, 2);
        fault("p4,0;", 0, 2);
        fault("r4;", 0, 2);
        fault("r20;", 0, 2);
        fault("m4,1;", 0, 2);
        fault("m0,60;", 0, 2);
        fault("m3,60;", 0, 2);
        fault("m0,999;", 0, 2);
        fault("m4,60;", 0, 2);
        fault("x4,0;", 0, 2);
        fault("x0,4;", 0, 2);
        fault("x4,4;", 0, 2);
        fault("w;p4,1;", 2, 2);
        fault("p4,1", 0, 1);
        fault("p4,1;zz", 0, 2);
    }

    private static void promise26Impossible() {
        fault("p0,0;", 0, 3);
        fault("p0,201;", 0, 3);
        fault("p0,999;", 0, 3);
        fault("p0,11;", 0, 3);
        fault("p3,1;", 0, 3);
        fault("p2,1;", 0, 3);
        fault("r3;", 0, 3);
        fault("r2;", 0, 3);
        fault("m0,0;", 0, 3);
        fault("m0,7;", 0, 3);
        fault("m3,9;", 0, 3);
        fault("m2,8;", 0, 3);
        fault("m0,59;", Check.MISSING, Check.MISSING);
        fault("m1,59;", Check.MISSING, Check.MISSING);
        fault("x0,0;", 0, 3);
        fault("x3,3;", 0, 3);
        fault("x0,3;", 0, 3);
        fault("x3,0;", 0, 3);
        fault("x2,1;", 0, 3);
        fault("x1,2;", 0, 3);
        right("x2,0;");
    }

    private static void promise26OrdersAheadAreDone() {
        fault("p0,10;p0,10;p0,10;p0,1;", 18, 3);
        fault("r0;r0;", 3, 3);
        right("r0;p0,1;r0;");
        right("r1;p1,5;");
        fault("r1;p1,5;p1,1;", 8, 3);
        fault("m0,1;m1,1;", 5, 3);
        right("m0,1;m1,0;");
        fault("m0,1;m2,0;x1,2;", 10, 3);
        right("m0,1;m1,12;x1,2;");
        right("x0,1;x0,1;x0,2;");
        fault("x0,1;x0,2;", 5, 3);
        fault("w;w;w;w;m0,8;m0,8;", 13, 3);
        PickSlots x = prepared();
        x.set(2, 0);
        Check.typeText(x, "p0,1;");
        Check.due("no refills by picks", x.fault(1), 3);
        Check.retype(x, "r0;p0,1;");
        Check.due("a refill ahead", x.fault(1), Check.MISSING);
        Check.due("fault changes nothing", x.goodOf(0, 7), 0);
        Check.due("nor the history", x.count(8), 4);
    }

    private static void promise26Errors() {
        PickSlots x = new PickSlots();
        Check.due("empty text", x.fault(0), Check.MISSING);
        Check.due("empty text", x.fault(1), Check.MISSING);
        Check.due("fault 2", x.fault(2), Check.INVALID);
        x.type('?');
        Check.due("fault 2 of a faulty text", x.fault(2), Check.INVALID);
        for (int wild : Check.WILD) {
            Check.due("fault " + wild, x.fault(wild), Check.INVALID);
        }
    }

    private static void promise27Play() {
        PickSlots x = prepared();
        Check.typeText(x, "p0,4;r0;m0,13;x0,1;w;");
        Check.due("play", x.play(), 5);
        Check.due("units", x.goodOf(0, 7), 10);
        Check.due("store", x.goodOf(0, 8), 16);
        Check.due("slot of 0", x.goodOf(0, 6), 7);
        Check.due("slot of 1", x.goodOf(1, 6), 13);
        Check.due("week", x.count(2), 1);
        Check.due("picks of the week", x.goodOf(0, 9), 0);
        Check.due("picks", x.account(7), 1);
        Check.due("moves and exchanges", x.account(6), 2);
        Check.due("refills: 30 and 12 kilograms", x.account(3), 2);
        Check.due("the text stays", x.count(9), 21);
        Check.due("not once more: m0,13", x.fault(0), 8);
        Check.due("play again", x.play(), Check.IMPOSSIBLE);
        Check.due("nothing is done of it", x.goodOf(0, 10), 4);
    }

    private static void promise27OneChange() {
        PickSlots x = new PickSlots();
        Check.due("play of none", x.play(), 0);
        Check.due("is a change", x.count(8), 1);
        Check.due("that is undone", x.undo(), 0);
        Check.typeText(x, "w;w;w;");
        Check.due("play", x.play(), 3);
        Check.due("one change", x.count(8), 1);
        Check.due("undo", x.undo(), 0);
        Check.due("all are undone", x.count(2), 0);
        Check.due("the text stays", x.count(9), 6);
        Check.due("play once more", x.play(), 3);
        x.type('!');
        Check.due("play of a faulty text", x.play(), Check.IMPOSSIBLE);
        Check.due("is no change", x.count(8), 1);
        Check.due("week", x.count(2), 3);
    }

    private static void promise27Limits() {
        PickSlots x = new PickSlots();
        StringBuilder weeks = new StringBuilder();
        for (int n = 0; n < 30; n++) {
            weeks.append("w;");
        }
        Check.typeText(x, weeks.toString());
        for (int n = 1; n <= 33; n++) {
            Check.due("play of 30 weeks", x.play(), 30);
        }
        Check.due("only 10 more are possible", x.fault(0), 20);
        Check.due("reason", x.fault(1), 3);
        Check.due("play", x.play(), Check.IMPOSSIBLE);
        Check.due("week", x.count(2), 990);
    }
}
