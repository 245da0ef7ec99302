/** Promises 18 to 23: weekly walks, accounts, counts, settings and undo. */
public final class WalksTest {
    private static final int RAISE = Check.RAISE;

    public static void main(String[] args) {
        promise18Weekly();
        promise19AtBest();
        promise20Account();
        promise20Base();
        promise21Count();
        promise21CountOfTwenty();
        promise22Set();
        promise23Undo();
        promise23UndoOfEachChange();
        promise23UndoKeepsText();
        errorsChangeNothing();
        Check.end();
    }

    private static void promise18Weekly() {
        PickSlots x = new PickSlots();
        x.good(1, 1);
        x.good(1, 1);
        x.good(1, 1);
        for (int season = 0; season < 4; season++) {
            x.demand(0, season, 10 * season);
            x.demand(1, season, 1);
            x.demand(2, season, 500);
        }
        Check.due("none in slots", x.weekly(3), 0);
        x.place(0, 5);
        x.place(1, 9);
        for (int season = 0; season < 4; season++) {
            Check.due("weekly " + season, x.weekly(season), 10 * season * 13 + 10);
        }
        Check.due("weekly 4", x.weekly(4), Check.INVALID);
        for (int wild : Check.WILD) {
            Check.due("weekly " + wild, x.weekly(wild), Check.INVALID);
        }
    }

    private static void promise19AtBest() {
        PickSlots x = new PickSlots();
        Check.due("no goods", x.atBest(0), 0);
        x.good(40, 1);
        x.good(1, 1);
        x.good(1, 1);
        x.good(1, 1);
        int[] demands = {5, 30, 20, 999};
        int[] slots = {0, 59, 1, 0};
        for (int n = 0; n < 4; n++) {
            x.demand(n, 2, demands[n]);
            if (n < 3) {
                x.place(n, slots[n]);
            }
        }
        // The walks are 7, 49 and 4; good 3 is in no slot; weights do not count.
        Check.due("at best", x.atBest(2), 30 * 4 + 20 * 7 + 5 * 49);
        Check.due("as it is", x.weekly(2), 5 * 7 + 30 * 49 + 20 * 4);
        x.demand(0, 2, 500);
        Check.due("the heavy one would be nearest", x.atBest(2), 500 * 4 + 30 * 7 + 20 * 49);
        Check.due("other seasons", x.atBest(0), 0);
        x.take(1);
        Check.due("its slot does not count then", x.atBest(2), 500 * 4 + 20 * 7);
        x.take(0);
        Check.due("one good", x.atBest(2), 20 * 4);
        x.move(2, 59);
        Check.due("farther", x.atBest(2), 20 * 49);
        x.move(2, 2);
        Check.due("and nearer again", x.atBest(2), 20 * 4);
        Check.due("atBest 4", x.atBest(4), Check.INVALID);
        for (int wild : Check.WILD) {
            Check.due("atBest " + wild, x.atBest(wild), Check.INVALID);
        }
    }

    private static void promise20Account() {
        PickSlots x = new PickSlots();
        x.good(6, 10);
        x.good(2, 10);
        x.demand(0, 0, 10);
        x.deliver(0, 100);
        x.place(0, 10);
        x.place(1, 2);
        x.pick(0, 3);
        x.pick(0, 3);
        x.exchange(0, 1);
        x.move(1, 7);
        int[] due = {2 * 13, 43, 2 * (4 + 5) + 8 + 5 + 2, 1, RAISE + 90, RAISE + 130, 2, 2};
        for (int what = 0; what < due.length; what++) {
            Check.due("account " + what, x.account(what), due[what]);
        }
        Check.due("account 8", x.account(8), Check.INVALID);
        for (int wild : Check.WILD) {
            Check.due("account " + wild, x.account(wild), Check.INVALID);
        }
    }

    private static void promise20Base() {
        PickSlots x = new PickSlots();
        x.good(1, 10);
        x.demand(0, 0, 100);
        x.demand(0, 1, 7);
        Check.due("in no slot", x.account(5), RAISE);
        x.place(0, 59);
        Check.due("by placing", x.account(5), RAISE + 4900);
        x.move(0, 1);
        Check.due("not by a move", x.account(5), RAISE + 4900);
        x.demand(0, 0, 200);
        Check.due("by a demand: 100 more of 4", x.account(5), RAISE + 5300);
        x.demand(0, 1, 8);
        Check.due("not by another season", x.account(5), RAISE + 5300);
        x.endWeek();
        Check.due("by the end of a week: 50 less of 4", x.account(5), RAISE + 5100);
        x.take(0);
        Check.due("by taking: 150 of 4", x.account(5), RAISE + 4500);
        Check.due("saved", x.account(4), RAISE + 4500);
        Check.due("none in slots", x.weekly(0), 0);
        x.place(0, 59);
        for (int n = 1; n < 13; n++) {
            x.endWeek();
        }
        Check.due("season 1: 8 of 49", x.account(5), RAISE + 4500 + 392);
        PickSlots y = new PickSlots();
        y.good(1, 10);
        y.place(0, 1);
        y.demand(0, 0, 10);
        y.move(0, 0);
        Check.due("saved below 0", y.account(4), RAISE - 30);
        y.demand(0, 0, 0);
        Check.due("base below 0", y.account(5), RAISE - 30);
    }

    private static void promise21Count() {
        PickSlots x = new PickSlots();
        x.good(1, 10);
        x.good(1, 20);
        x.good(1, 30);
        x.good(1, 40);
        x.deliver(0, 15);
        x.deliver(1, 100);
        x.deliver(3, 1000);
        x.place(0, 1);
        x.place(1, 2);
        x.place(2, 3);
        x.refill(0);
        x.refill(1);
        for (int n = 0; n < 30; n++) {
            x.endWeek();
        }
        Check.typeText(x, "p0");
        int[] due = {4, 3, 30, 2, 9, 30, 1085, 1, 4, 2};
        for (int what = 0; what < due.length; what++) {
            Check.due("count " + what, x.count(what), due[what]);
        }
        Check.due("pick of all", x.pick(0, 10), 4);
        Check.due("two without units", x.count(7), 2);
        for (int what = 10; what < 20; what++) {
            Check.due("count " + what, x.count(what), Check.INVALID);
        }
        Check.due("count 23", x.count(23), Check.INVALID);
        for (int wild : Check.WILD) {
            Check.due("count " + wild, x.count(wild), Check.INVALID);
        }
    }

    /** All calls that go through the goods, with as many as there can be. */
    private static void promise21CountOfTwenty() {
        PickSlots x = new PickSlots();
        int weekly = 0;
        for (int n = 0; n < 20; n++) {
            x.good(1, 1);
            x.demand(n, 0, 4 * n);
            x.deliver(n, 2);
            weekly += 4 * n * x.place(n, 3 * n);
            x.refill(n);
        }
        Check.due("goods", x.count(0), 20);
        Check.due("in slots", x.count(1), 20);
        Check.due("units in slots", x.count(5), 20);
        Check.due("units in the store", x.count(6), 20);
        Check.due("without units", x.count(7), 0);
        Check.due("weekly", x.weekly(0), weekly);
        Check.due("best", x.best(0), 19);
        Check.due("at best is at most that", x.atBest(0) > 0 && x.atBest(0) <= weekly ? 1 : 0, 1);
        Check.due("endWeek", x.endWeek(), 1);
        Check.due("a quarter less", x.weekly(0), weekly / 4 * 3);
        Check.due("improve", x.improve(10), 10);
    }

    private static void promise22Set() {
        int[] least = {0, 1, 0};
        int[] greatest = {200, 500, 1};
        int[] first = {30, 60, 1};
        PickSlots x = new PickSlots();
        for (int what = 0; what < 3; what++) {
            Check.due("below " + what, x.set(what, least[what] - 1), Check.INVALID);
            Check.due("above " + what, x.set(what, greatest[what] + 1), Check.INVALID);
            Check.due("unchanged " + what, x.count(20 + what), first[what]);
            Check.due("least " + what, x.set(what, least[what]), first[what]);
            Check.due("count of least " + what, x.count(20 + what), least[what]);
            Check.due("greatest " + what, x.set(what, greatest[what]), least[what]);
            Check.due("count of greatest " + what, x.count(20 + what), greatest[what]);
            Check.due("the same " + what, x.set(what, greatest[what]), greatest[what]);
            for (int wild : Check.WILD) {
                Check.due("set " + what + " " + wild, x.set(what, wild), Check.INVALID);
            }
        }
        Check.due("set 3", x.set(3, 1), Check.INVALID);
        for (int wild : Check.WILD) {
            Check.due("set what " + wild, x.set(wild, 1), Check.INVALID);
        }
        Check.due("undo", x.undo(), 3);
        Check.due("the same is a change, too", x.undo(), 2);
        Check.due("undone", x.count(22), 0);
    }

    private static void promise23Undo() {
        PickSlots x = new PickSlots();
        Check.due("empty history", x.undo(), Check.IMPOSSIBLE);
        for (int n = 0; n < 7; n++) {
            x.good(1 + n, 1);
            Check.due("states", x.count(8), Math.min(n + 1, 4));
        }
        for (int n = 3; n >= 0; n--) {
            Check.due("undo", x.undo(), n);
            Check.due("goods", x.count(0), n + 3);
            Check.due("states", x.count(8), n);
        }
        Check.due("oldest were dropped", x.undo(), Check.IMPOSSIBLE);
        Check.due("goods stay", x.count(0), 3);
        Check.due("the goods that were first", x.goodOf(2, 0), 3);
        x.good(40, 9);
        Check.due("history grows again", x.count(8), 1);
        Check.due("undo", x.undo(), 0);
        Check.due("goods are as before", x.count(0), 3);
        for (int n = 0; n < 9; n++) {
            x.endWeek();
            Check.due("an error between changes", x.good(41, 1), Check.INVALID);
        }
        for (int n = 8; n >= 5; n--) {
            Check.due("undo", x.undo(), n - 5);
            Check.due("week", x.count(2), n);
        }
    }

    private static PickSlots prepared() {
        PickSlots x = new PickSlots();
        x.good(3, 10);
        x.good(2, 10);
        x.good(1, 10);
        x.demand(0, 0, 100);
        x.demand(1, 0, 50);
        x.deliver(0, 100);
        x.deliver(1, 100);
        x.place(0, 58);
        x.place(1, 57);
        x.pick(0, 4);
        return x;
    }

    private static int change(PickSlots x, int which) {
        switch (which) {
            case 0: return x.good(5, 5);
            case 1: return x.demand(0, 0, 7);
            case 2: return x.deliver(0, 7);
            case 3: return x.place(2, 5);
            case 4: return x.take(0);
            case 5: return x.pick(0, 7);
            case 6: return x.refill(0);
            case 7: return x.move(0, 3);
            case 8: return x.exchange(0, 1);
            case 9: return x.improve(3);
            case 10: return x.endWeek();
            case 11: return x.set(1, 17);
            default: return x.play();
        }
    }

    private static void promise23UndoOfEachChange() {
        for (int which = 0; which <= 12; which++) {
            PickSlots x = prepared();
            Check.typeText(x, "p0,2;m1,9;w;");
            String before = Made.whole(x);
            Check.due("change " + which + " is possible", change(x, which) >= 0 ? 1 : 0, 1);
            Check.due("change " + which + " changes", before.equals(Made.whole(x)) ? 1 : 0, 0);
            Check.due("undo " + which, x.undo(), 3);
            Check.due("undo of change " + which + " restores all", before.equals(Made.whole(x)) ? 1 : 0, 1);
        }
    }

    private static void promise23UndoKeepsText() {
        PickSlots x = prepared();
        Check.typeText(x, "w;");
        x.endWeek();
        x.type('w');
        x.undo();
        Check.due("the text stays", x.count(9), 3);
        Check.due("typing is no change", x.count(8), 3);
        Check.due("its fault", x.fault(0), 2);
        x.clearText();
        x.undo();
        Check.due("the text stays empty", x.count(9), 0);
    }

    private static void errorsChangeNothing() {
        PickSlots x = prepared();
        Check.typeText(x, "p0,2;m1,9;w;w");
        String before = Made.whole(x);
        Check.ignore(x.good(0, 5) + x.demand(0, 4, 7) + x.deliver(0, 0) + x.place(0, 5) + x.take(2));
        Check.ignore(x.pick(1, 11) + x.pick(2, 1) + x.refill(2) + x.move(0, 57) + x.exchange(0, 2));
        Check.ignore(x.improve(0) + x.set(1, 0) + x.play() + x.fault(0) + x.fault(1) + x.worth(0, 1, 0));
        Check.ignore(x.best(0) + x.weekly(0) + x.atBest(0) + x.nearest(0) + x.type(31));
        Check.due("nothing is changed", before.equals(Made.whole(x)) ? 1 : 0, 1);
        Check.due("no states", x.count(8), 4);
        Check.due("no text", x.count(9), 13);
    }
}
