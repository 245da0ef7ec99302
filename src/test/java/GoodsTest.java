/** Promises 1 to 9: a new object, and the calls of goods. */
public final class GoodsTest {
    private static final int[] HEAVIEST = {40, 30, 20, 15, 8, 5};
    private static final int[] REACHES = {3, 0, 0, 2, 5, 9};

    public static void main(String[] args) {
        promise1NewObject();
        promise2Good();
        promise3Demand();
        promise4Deliver();
        promise5Place();
        promise5PlaceWithoutUnits();
        promise6Take();
        promise7GoodOf();
        promise8SlotOf();
        promise9Nearest();
        promise9NearestFull();
        Check.end();
    }

    private static void promise1NewObject() {
        PickSlots x = new PickSlots();
        for (int what = 0; what <= 9; what++) {
            Check.due("new count " + what, x.count(what), what == 4 ? 13 : 0);
        }
        Check.due("new count 20", x.count(20), 30);
        Check.due("new count 21", x.count(21), 60);
        Check.due("new count 22", x.count(22), 1);
        for (int what = 0; what <= 7; what++) {
            Check.due("new account " + what, x.account(what), what == 4 || what == 5 ? Check.RAISE : 0);
        }
        for (int slot = 0; slot < 60; slot++) {
            Check.due("new slotOf " + slot, x.slotOf(slot, 0), Check.MISSING);
        }
        Check.due("new goodOf", x.goodOf(0, 0), Check.INVALID);
        Check.due("new undo", x.undo(), Check.IMPOSSIBLE);
        PickSlots other = new PickSlots();
        x.good(1, 1);
        Check.due("objects are apart", other.count(0), 0);
    }

    private static void promise2Good() {
        PickSlots x = new PickSlots();
        int[][] wrong = {{0, 1}, {41, 1}, {1, 0}, {1, 201}, {-1, 5}, {5, -1},
            {Integer.MIN_VALUE, 1}, {Integer.MAX_VALUE, 1}, {1, Integer.MAX_VALUE}, {1, Integer.MIN_VALUE}};
        for (int[] w : wrong) {
            Check.due("good " + w[0] + " " + w[1], x.good(w[0], w[1]), Check.INVALID);
        }
        Check.due("no good was added", x.count(0), 0);
        Check.due("no state was recorded", x.count(8), 0);
        Check.due("good 1 1", x.good(1, 1), 0);
        Check.due("good 40 200", x.good(40, 200), 1);
        for (int n = 2; n < 20; n++) {
            Check.due("good " + n, x.good(n, 2 * n), n);
        }
        Check.due("21st good", x.good(1, 1), Check.LIMIT);
        Check.due("21st good out of range", x.good(0, 1), Check.INVALID);
        Check.due("20 goods", x.count(0), 20);
        Check.due("weight 19", x.goodOf(19, 0), 19);
        Check.due("capacity 19", x.goodOf(19, 1), 38);
        Check.due("in no slot", x.goodOf(19, 6), Check.MISSING);
        Check.due("none in slots", x.count(1), 0);
        Check.due("undo of the 20th", x.undo(), 3);
        Check.due("20th again", x.good(3, 3), 19);
    }

    private static void promise3Demand() {
        PickSlots x = new PickSlots();
        Check.due("demand of no good", x.demand(0, 0, 1), Check.INVALID);
        x.good(1, 1);
        x.good(2, 2);
        for (int season = 0; season < 4; season++) {
            Check.due("demand at first", x.demand(1, season, 10 + season), 0);
        }
        for (int season = 0; season < 4; season++) {
            Check.due("demand then", x.demand(1, season, 999), 10 + season);
            Check.due("demand of the other good", x.goodOf(0, 2 + season), 0);
        }
        Check.due("demand 999", x.demand(1, 3, 0), 999);
        Check.due("demand 0", x.demand(1, 3, 0), 0);
        int[][] wrong = {{2, 0, 0}, {-1, 0, 0}, {0, -1, 0}, {0, 4, 0}, {0, 0, -1}, {0, 0, 1000},
            {20, 0, 0}, {0, Integer.MAX_VALUE, 0}, {Integer.MIN_VALUE, 0, 0}, {0, 0, Integer.MIN_VALUE}};
        for (int[] w : wrong) {
            Check.due("demand " + w[0] + " " + w[1] + " " + w[2], x.demand(w[0], w[1], w[2]), Check.INVALID);
        }
    }

    private static void promise4Deliver() {
        PickSlots x = new PickSlots();
        Check.due("deliver of no good", x.deliver(0, 1), Check.INVALID);
        x.good(1, 200);
        x.good(1, 200);
        Check.due("deliver 1", x.deliver(0, 1), 1);
        Check.due("deliver 0", x.deliver(0, 0), Check.INVALID);
        Check.due("deliver 5001", x.deliver(0, 5001), Check.INVALID);
        Check.due("deliver -1", x.deliver(0, -1), Check.INVALID);
        Check.due("deliver greatest", x.deliver(0, Integer.MAX_VALUE), Check.INVALID);
        Check.due("deliver to good 2", x.deliver(2, 5), Check.INVALID);
        for (int n = 1; n <= 19; n++) {
            Check.due("deliver 5000", x.deliver(0, 5000), 1 + 5000 * n);
        }
        Check.due("deliver too much", x.deliver(0, 5000), Check.LIMIT);
        Check.due("deliver 5001 of a full one", x.deliver(0, 5001), Check.INVALID);
        Check.due("deliver up to the limit", x.deliver(0, 4999), 100000);
        Check.due("deliver one more", x.deliver(0, 1), Check.LIMIT);
        Check.due("the other good", x.deliver(1, 7), 7);
        Check.due("in the store", x.count(6), 100007);
    }

    private static void promise5Place() {
        for (int slot = 0; slot < 60; slot++) {
            PickSlots x = new PickSlots();
            int heaviest = HEAVIEST[slot % 6];
            x.good(heaviest, 1);
            if (heaviest < 40) {
                x.good(heaviest + 1, 1);
                Check.due("too heavy for " + slot, x.place(1, slot), Check.IMPOSSIBLE);
            }
            Check.due("place into " + slot, x.place(0, slot), 4 * (slot / 6) + 4 + REACHES[slot % 6]);
            Check.due("slot of the good", x.goodOf(0, 6), slot);
            Check.due("good of the slot", x.slotOf(slot, 0), 0);
        }
        PickSlots x = new PickSlots();
        x.good(1, 1);
        x.good(1, 1);
        Check.due("place", x.place(0, 8), 8);
        Check.due("slot has a good", x.place(1, 8), Check.IMPOSSIBLE);
        Check.due("good is in a slot", x.place(0, 9), Check.IMPOSSIBLE);
        Check.due("good is in this slot", x.place(0, 8), Check.IMPOSSIBLE);
        for (int wild : Check.WILD) {
            Check.due("no slot " + wild, x.place(1, wild), Check.INVALID);
            Check.due("no good " + wild, x.place(wild, 1), Check.INVALID);
        }
        Check.due("no slot 60", x.place(1, 60), Check.INVALID);
        Check.due("no slot 60 rather than in a slot", x.place(0, 60), Check.INVALID);
        Check.due("no good 2", x.place(2, 8), Check.INVALID);
        Check.due("states", x.count(8), 3);
    }

    private static void promise5PlaceWithoutUnits() {
        PickSlots x = new PickSlots();
        x.good(1, 10);
        x.deliver(0, 30);
        x.place(0, 1);
        Check.due("no units", x.goodOf(0, 7), 0);
        x.refill(0);
        x.take(0);
        x.place(0, 2);
        Check.due("no units again", x.goodOf(0, 7), 0);
        Check.due("all in the store", x.goodOf(0, 8), 30);
    }

    private static void promise6Take() {
        PickSlots x = new PickSlots();
        Check.due("take of no good", x.take(0), Check.INVALID);
        x.good(1, 200);
        Check.due("take out of no slot", x.take(0), Check.IMPOSSIBLE);
        for (int n = 0; n < 20; n++) {
            x.deliver(0, 5000);
        }
        x.place(0, 7);
        Check.due("take of none", x.take(0), 0);
        x.place(0, 7);
        x.refill(0);
        Check.due("room for more", x.deliver(0, 150), 99950);
        Check.due("take over the limit", x.take(0), 200);
        Check.due("more than the limit", x.goodOf(0, 8), 100150);
        Check.due("deliver over the limit", x.deliver(0, 1), Check.LIMIT);
        Check.due("slot is free", x.slotOf(7, 0), Check.MISSING);
        Check.due("good is in none", x.goodOf(0, 6), Check.MISSING);
        Check.due("take twice", x.take(0), Check.IMPOSSIBLE);
        for (int wild : Check.WILD) {
            Check.due("take " + wild, x.take(wild), Check.INVALID);
        }
        Check.due("take 1", x.take(1), Check.INVALID);
    }

    private static void promise7GoodOf() {
        PickSlots x = new PickSlots();
        x.good(9, 12);
        x.good(3, 50);
        for (int season = 0; season < 4; season++) {
            x.demand(0, season, 100 + season);
        }
        x.deliver(0, 40);
        x.place(0, 13);
        x.pick(0, 5);
        x.pick(0, 3);
        int[] due = {9, 12, 100, 101, 102, 103, 13, 4, 28, 2, 8, 3};
        for (int what = 0; what < due.length; what++) {
            Check.due("goodOf 0 " + what, x.goodOf(0, what), due[what]);
        }
        int[] dueOther = {3, 50, 0, 0, 0, 0, Check.MISSING, 0, 0, 0, 0, 5};
        for (int what = 0; what < dueOther.length; what++) {
            Check.due("goodOf 1 " + what, x.goodOf(1, what), dueOther[what]);
        }
        Check.due("goodOf 0 12", x.goodOf(0, 12), Check.INVALID);
        Check.due("goodOf 2 0", x.goodOf(2, 0), Check.INVALID);
        for (int wild : Check.WILD) {
            Check.due("goodOf 0 " + wild, x.goodOf(0, wild), Check.INVALID);
            Check.due("goodOf of " + wild, x.goodOf(wild, 6), Check.INVALID);
        }
        greatestHeights();
    }

    private static void greatestHeights() {
        int[] weights = {1, 5, 6, 8, 9, 15, 16, 20, 21, 30, 31, 40};
        int[] heights = {5, 5, 4, 4, 3, 3, 2, 2, 1, 1, 0, 0};
        PickSlots x = new PickSlots();
        for (int n = 0; n < weights.length; n++) {
            x.good(weights[n], 1);
            Check.due("greatest height of weight " + weights[n], x.goodOf(n, 11), heights[n]);
        }
    }

    private static void promise8SlotOf() {
        PickSlots x = new PickSlots();
        x.good(1, 1);
        x.good(1, 1);
        x.place(1, 59);
        x.place(0, 0);
        for (int slot = 0; slot < 60; slot++) {
            int good = slot == 59 ? 1 : slot == 0 ? 0 : Check.MISSING;
            Check.due("slotOf 0 " + slot, x.slotOf(slot, 0), good);
            Check.due("slotOf 1 " + slot, x.slotOf(slot, 1), 4 * (slot / 6) + 4 + REACHES[slot % 6]);
            Check.due("slotOf 2 " + slot, x.slotOf(slot, 2), HEAVIEST[slot % 6]);
        }
        Check.due("slotOf 60", x.slotOf(60, 0), Check.INVALID);
        Check.due("slotOf what 3", x.slotOf(0, 3), Check.INVALID);
        for (int wild : Check.WILD) {
            Check.due("slotOf " + wild, x.slotOf(wild, 0), Check.INVALID);
            Check.due("slotOf what " + wild, x.slotOf(1, wild), Check.INVALID);
        }
    }

    private static void promise9Nearest() {
        PickSlots x = new PickSlots();
        Check.due("nearest of no good", x.nearest(0), Check.INVALID);
        x.good(40, 1);
        x.good(20, 1);
        x.good(21, 1);
        x.good(1, 1);
        Check.due("heaviest", x.nearest(0), 0);
        Check.due("the lowest of slots 1 and 2", x.nearest(1), 1);
        Check.due("only height 1", x.nearest(2), 1);
        x.place(1, 1);
        Check.due("slot 2 then", x.nearest(3), 2);
        Check.due("slot 0, walk 7, for 30 kilograms", x.nearest(2), 0);
        Check.due("a good in a slot has a nearest one, too", x.nearest(1), 2);
        x.place(3, 2);
        Check.due("slot 3, walk 6, ahead of slot 0", x.nearest(3), 3);
        Check.due("slot 0 has walk 7, slot 7 walk 8", x.nearest(2), 0);
        Check.due("nearest 4", x.nearest(4), Check.INVALID);
        for (int wild : Check.WILD) {
            Check.due("nearest " + wild, x.nearest(wild), Check.INVALID);
        }
    }

    private static void promise9NearestFull() {
        PickSlots x = new PickSlots();
        for (int n = 0; n < 11; n++) {
            x.good(n == 10 ? 31 : 1, 1);
        }
        for (int n = 0; n < 10; n++) {
            Check.due("nearest of the column", x.nearest(10), 6 * n);
            x.place(n, 6 * n);
        }
        Check.due("none is left", x.nearest(10), Check.MISSING);
        Check.due("others are left", x.nearest(0), 1);
        x.take(9);
        Check.due("one is left", x.nearest(10), 54);
    }
}
