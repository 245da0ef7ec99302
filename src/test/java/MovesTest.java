/** Promises 13 to 17: moves, exchanges, what they are worth, the best, and improving. */
public final class MovesTest {
    private static final int RAISE = Check.RAISE;

    public static void main(String[] args) {
        promise13Move();
        promise13MoveErrors();
        promise14Exchange();
        promise14ExchangeErrors();
        promise15Worth();
        promise15WorthErrors();
        promise16Best();
        promise16BestOfSeveral();
        promise16BestExchangeIsToldByLowerGood();
        promise16OnlyAboveNothing();
        promise17Improve();
        promise17ImproveGoodAndSlot0();
        promise17ImproveErrors();
        Check.end();
    }

    private static void promise13Move() {
        PickSlots x = new PickSlots();
        x.good(5, 10);
        x.deliver(0, 10);
        x.demand(0, 0, 20);
        x.demand(0, 1, 3);
        x.place(0, 59);
        x.refill(0);
        Check.due("from walk 49 to walk 4", x.move(0, 1), RAISE + 20 * 45);
        Check.due("walk: 9 columns, reaches 9 and 0, weight 5", x.account(2), 36 + 9 + 5);
        Check.due("units go, too", x.goodOf(0, 7), 10);
        Check.due("slot", x.goodOf(0, 6), 1);
        Check.due("old slot", x.slotOf(59, 0), Check.MISSING);
        Check.due("new slot", x.slotOf(1, 0), 0);
        Check.due("back to walk 7 in the same column", x.move(0, 0), RAISE - 20 * 3);
        Check.due("walk: reaches 0 and 3, weight 5", x.account(2), 50 + 8);
        Check.due("saved", x.account(4), RAISE + 900 - 60);
        Check.due("moves", x.account(6), 2);
        for (int n = 0; n < 13; n++) {
            x.endWeek();
        }
        Check.due("the demand of season 1", x.move(0, 1), RAISE + 3 * 3);
    }

    private static void promise13MoveErrors() {
        PickSlots x = new PickSlots();
        Check.due("move of no good", x.move(0, 0), Check.INVALID);
        x.good(31, 1);
        x.good(1, 1);
        Check.due("in no slot", x.move(0, 6), Check.IMPOSSIBLE);
        Check.due("in no slot, no such slot", x.move(0, 60), Check.INVALID);
        x.place(0, 0);
        x.place(1, 6);
        Check.due("slot has a good", x.move(0, 6), Check.IMPOSSIBLE);
        Check.due("it is there", x.move(0, 0), Check.IMPOSSIBLE);
        Check.due("too heavy", x.move(0, 1), Check.IMPOSSIBLE);
        Check.due("no good 2", x.move(2, 1), Check.INVALID);
        for (int wild : Check.WILD) {
            Check.due("move to " + wild, x.move(0, wild), Check.INVALID);
            Check.due("move of " + wild, x.move(wild, 12), Check.INVALID);
        }
        Check.due("no moves", x.account(6), 0);
        Check.due("possible", x.move(0, 12), RAISE);
    }

    private static void promise14Exchange() {
        PickSlots x = new PickSlots();
        x.good(5, 10);
        x.good(3, 10);
        x.demand(0, 0, 8);
        x.demand(1, 0, 3);
        x.deliver(0, 4);
        x.place(0, 23);
        x.place(1, 0);
        x.refill(0);
        Check.due("weekly ahead", x.weekly(0), 8 * 25 + 3 * 7);
        Check.due("exchange", x.exchange(0, 1), RAISE + 5 * 18);
        Check.due("weekly behind", x.weekly(0), 8 * 7 + 3 * 25);
        Check.due("walks of both moves", x.account(2), 2 * (12 + 9 + 3) + 5 + 3);
        Check.due("slot of 0", x.goodOf(0, 6), 0);
        Check.due("slot of 1", x.goodOf(1, 6), 23);
        Check.due("good of 0", x.slotOf(0, 0), 0);
        Check.due("good of 23", x.slotOf(23, 0), 1);
        Check.due("units of 0", x.goodOf(0, 7), 4);
        Check.due("units of 1", x.goodOf(1, 7), 0);
        Check.due("one exchange", x.account(6), 1);
        Check.due("told from the other one", x.exchange(1, 0), RAISE - 5 * 18);
        Check.due("saved", x.account(4), RAISE);
    }

    private static void promise14ExchangeErrors() {
        PickSlots x = new PickSlots();
        x.good(31, 1);
        x.good(30, 1);
        x.good(1, 1);
        Check.due("both in none", x.exchange(0, 1), Check.IMPOSSIBLE);
        Check.due("with itself in none", x.exchange(0, 0), Check.INVALID);
        x.place(0, 0);
        Check.due("one in none", x.exchange(0, 1), Check.IMPOSSIBLE);
        Check.due("other in none", x.exchange(1, 0), Check.IMPOSSIBLE);
        x.place(1, 7);
        Check.due("one too heavy", x.exchange(0, 1), Check.IMPOSSIBLE);
        Check.due("other too heavy", x.exchange(1, 0), Check.IMPOSSIBLE);
        Check.due("with itself", x.exchange(1, 1), Check.INVALID);
        Check.due("no good 3", x.exchange(0, 3), Check.INVALID);
        Check.due("no good 3 ahead", x.exchange(3, 0), Check.INVALID);
        for (int wild : Check.WILD) {
            Check.due("exchange with " + wild, x.exchange(0, wild), Check.INVALID);
            Check.due("exchange of " + wild, x.exchange(wild, 0), Check.INVALID);
        }
        x.place(2, 14);
        Check.due("at 30 and 20 kilograms", x.exchange(1, 2), Check.IMPOSSIBLE);
        Check.due("at the limits", x.move(1, 13), RAISE);
        Check.due("possible", x.exchange(0, 2), Check.IMPOSSIBLE);
        Check.due("no exchange", x.account(6), 1);
    }

    private static void promise15Worth() {
        PickSlots x = new PickSlots();
        x.good(5, 10);
        x.good(3, 10);
        x.demand(0, 0, 8);
        x.demand(1, 0, 3);
        x.place(0, 23);
        x.place(1, 0);
        Check.due("walk of a move", x.worth(0, 1, 2), 12 + 9 + 0 + 5);
        Check.due("saving of a move", x.worth(0, 1, 1), RAISE + 8 * 21);
        Check.due("worth of a move", x.worth(0, 1, 0), RAISE + 13 * 8 * 21 - 26);
        Check.due("walk of an exchange", x.worth(0, 0, 2), 56);
        Check.due("saving of an exchange", x.worth(0, 0, 1), RAISE + 90);
        Check.due("worth of an exchange", x.worth(0, 0, 0), RAISE + 13 * 90 - 56);
        Check.due("the same from the other one", x.worth(1, 23, 0), RAISE + 13 * 90 - 56);
        Check.due("worth below 0", x.worth(1, 59, 0), RAISE - 13 * 3 * 42 - (36 + 3 + 9 + 3));
        Check.due("saving below 0", x.worth(1, 59, 1), RAISE - 3 * 42);
        x.endWeek();
        x.demand(0, 0, 8);
        x.demand(1, 0, 3);
        Check.due("12 weeks left", x.worth(0, 0, 0), RAISE + 12 * 90 - 56);
        for (int n = 1; n < 12; n++) {
            x.endWeek();
        }
        x.demand(0, 0, 8);
        x.demand(1, 0, 3);
        Check.due("1 week left", x.worth(0, 0, 0), RAISE + 90 - 56);
        Check.due("nothing is done", x.account(6), 0);
        Check.due("nothing is moved", x.goodOf(0, 6), 23);
    }

    private static void promise15WorthErrors() {
        PickSlots x = new PickSlots();
        x.good(31, 1);
        x.good(30, 1);
        Check.due("in no slot", x.worth(0, 0, 0), Check.IMPOSSIBLE);
        Check.due("in no slot, what out of range", x.worth(0, 0, 3), Check.INVALID);
        x.place(0, 0);
        x.place(1, 7);
        Check.due("in this one", x.worth(0, 0, 0), Check.IMPOSSIBLE);
        Check.due("too heavy", x.worth(0, 1, 1), Check.IMPOSSIBLE);
        Check.due("too heavy for the other's", x.worth(0, 7, 2), Check.IMPOSSIBLE);
        Check.due("the other is too heavy", x.worth(1, 0, 2), Check.IMPOSSIBLE);
        Check.due("no good 2", x.worth(2, 0, 0), Check.INVALID);
        Check.due("no slot 60", x.worth(0, 60, 0), Check.INVALID);
        Check.due("what 3", x.worth(0, 6, 3), Check.INVALID);
        for (int wild : Check.WILD) {
            Check.due("worth of " + wild, x.worth(wild, 6, 0), Check.INVALID);
            Check.due("worth to " + wild, x.worth(0, wild, 0), Check.INVALID);
            Check.due("worth what " + wild, x.worth(0, 6, wild), Check.INVALID);
        }
        Check.due("possible", x.worth(0, 6, 2), 4 + 6 + 31);
    }

    private static void best(PickSlots x, String about, int good, int slot, int worth) {
        Check.due(about + ": good", x.best(0), good);
        Check.due(about + ": slot", x.best(1), slot);
        Check.due(about + ": worth", x.best(2), worth);
    }

    private static void promise16Best() {
        PickSlots x = new PickSlots();
        best(x, "no goods", Check.MISSING, Check.MISSING, Check.MISSING);
        x.good(31, 1);
        x.good(2, 1);
        x.demand(0, 0, 10);
        x.demand(1, 0, 9);
        best(x, "none in slots", Check.MISSING, Check.MISSING, Check.MISSING);
        x.place(0, 54);
        x.place(1, 55);
        // Good 0 may only be at height 0: it saves 36 a pick. Good 1 saves as many, at slot 1.
        best(x, "the heavy one", 0, 0, 13 * 360 - (36 + 3 + 3 + 31));
        x.demand(1, 0, 10);
        best(x, "the light one carries less", 1, 1, 13 * 360 - (36 + 2));
        Check.due("what 3", x.best(3), Check.INVALID);
        for (int wild : Check.WILD) {
            Check.due("best " + wild, x.best(wild), Check.INVALID);
        }
    }

    private static void promise16BestOfSeveral() {
        PickSlots x = new PickSlots();
        x.good(1, 1);
        x.good(1, 1);
        x.demand(0, 0, 5);
        x.demand(1, 0, 5);
        x.place(1, 49);
        x.place(0, 50);
        // Slots 1 and 2 are as near, and both goods are worth as much.
        best(x, "lowest good, lowest slot", 0, 1, 13 * 5 * 32 - 33);
        x.move(0, 1);
        best(x, "slot 2 then", 1, 2, 13 * 5 * 32 - 33);
    }

    private static void promise16BestExchangeIsToldByLowerGood() {
        PickSlots x = new PickSlots();
        x.good(31, 1);
        x.good(31, 1);
        x.demand(0, 0, 1);
        x.demand(1, 0, 100);
        for (int n = 2; n < 11; n++) {
            x.good(40, 1);
            x.place(n, 6 * (n - 1));
        }
        // Slots 6 to 54 of height 0 are taken by goods without demand; good 0 has slot 0.
        x.take(10);
        x.place(0, 0);
        x.place(1, 54);
        int exchange = 13 * 99 * 36 - (2 * (36 + 6) + 62);
        best(x, "the exchange of 0 and 1, told by 0", 0, 54, exchange);
        Check.due("it is the same from 1", x.worth(1, 0, 0), RAISE + exchange);
    }

    private static void promise16OnlyAboveNothing() {
        PickSlots x = new PickSlots();
        x.good(27, 1);
        x.demand(0, 0, 3);
        x.place(0, 0);
        // To slot 1 it saves 3 * 3 a week, 13 weeks: 117, by a walk of 30: worth 87.
        best(x, "worth 87", 0, 1, 87);
        for (int n = 0; n < 9; n++) {
            x.endWeek();
        }
        x.demand(0, 0, 3);
        best(x, "4 weeks: worth 6", 0, 1, 6);
        x.demand(0, 0, 2);
        best(x, "below 0", Check.MISSING, Check.MISSING, Check.MISSING);
        x.endWeek();
        x.good(24, 1);
        x.take(0);
        x.place(1, 0);
        x.demand(1, 0, 3);
        Check.due("worth 0", x.worth(1, 1, 0), RAISE);
        best(x, "worth 0 is not enough", Check.MISSING, Check.MISSING, Check.MISSING);
        Check.due("nor for improve", x.improve(1), Check.MISSING);
        x.good(23, 1);
        x.take(1);
        x.place(2, 0);
        x.demand(2, 0, 3);
        best(x, "worth 1 is", 2, 1, 1);
    }

    private static void promise17Improve() {
        PickSlots x = new PickSlots();
        for (int n = 0; n < 12; n++) {
            x.good(1, 10);
            x.demand(n, 0, 100 + n);
            x.place(n, 59 - n);
        }
        x.deliver(0, 5);
        PickSlots y = new PickSlots();
        for (int n = 0; n < 12; n++) {
            y.good(1, 10);
            y.demand(n, 0, 100 + n);
            y.place(n, 59 - n);
        }
        int states = x.count(8);
        Check.due("ten at once", x.improve(10), 10);
        Check.due("are one change", x.count(8), states);
        for (int n = 0; n < 10; n++) {
            int good = y.best(0);
            int slot = y.best(1);
            Check.due("improve(1)", y.improve(1), 1);
            Check.due("as best told", y.goodOf(good, 6), slot);
        }
        for (int n = 0; n < 12; n++) {
            Check.due("the same as one by one", x.goodOf(n, 6), y.goodOf(n, 6));
        }
        Check.due("moves", x.account(6), 10);
        Check.due("saved", x.account(4), y.account(4));
        Check.due("walked", x.account(2), y.account(2));
        int total = 10;
        int done = x.improve(10);
        for (int n = 0; n < 100 && done > 0; n++) {
            total += done;
            Check.due("improves until nothing is left", done == 10 || x.best(0) == Check.MISSING ? 1 : 0, 1);
            done = x.improve(10);
        }
        Check.due("nothing is left", done, Check.MISSING);
        Check.due("all were counted", x.account(6), total);
    }

    private static void promise17ImproveGoodAndSlot0() {
        PickSlots x = new PickSlots();
        x.good(31, 1);
        x.demand(0, 0, 10);
        x.place(0, 54);
        Check.due("good 0 to slot 0", x.improve(10), 1);
        Check.due("it is there", x.goodOf(0, 6), 0);
    }

    private static void promise17ImproveErrors() {
        PickSlots x = new PickSlots();
        Check.due("nothing", x.improve(1), Check.MISSING);
        Check.due("times 0", x.improve(0), Check.INVALID);
        Check.due("times 11", x.improve(11), Check.INVALID);
        for (int wild : Check.WILD) {
            Check.due("times " + wild, x.improve(wild), Check.INVALID);
        }
        x.good(1, 1);
        x.demand(0, 0, 50);
        x.place(0, 59);
        Check.due("only one is worth it", x.improve(10), 1);
        Check.due("it is in slot 1", x.goodOf(0, 6), 1);
        int states = x.count(8);
        Check.due("nothing then", x.improve(10), Check.MISSING);
        Check.due("an error is no change", x.count(8), states);
        x.undo();
        Check.due("it is in slot 59 again", x.goodOf(0, 6), 59);
        Check.due("no moves again", x.account(6), 0);
    }
}
