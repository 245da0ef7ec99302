/** Objects that many tests begin with, and what many do with them. */
final class Made {
    private Made() {
    }

    /** With so many goods of weight 1 and capacity 200. */
    static PickSlots light(int goods) {
        PickSlots x = new PickSlots();
        for (int good = 0; good < goods; good++) {
            Check.due("good", x.good(1, 200), good);
        }
        return x;
    }

    /** With good 0 in a slot. */
    static PickSlots placed(int weight, int capacity, int slot) {
        PickSlots x = new PickSlots();
        Check.due("good", x.good(weight, capacity), 0);
        Check.holds("place", x.place(0, slot) > 0);
        return x;
    }

    /** Delivers as much as the bulk store takes of a good that has none there. */
    static void fillStore(PickSlots x, int good) {
        for (int n = 1; n <= 20; n++) {
            Check.due("deliver", x.deliver(good, 5000), 5000 * n);
        }
    }

    /** Ends so many weeks, 30 by a play: an object is used for 512 calls only. */
    static void endWeeks(PickSlots x, int weeks) {
        if (weeks >= 60) {
            Check.retype(x, "w;".repeat(30));
            for (int n = 0; n < weeks / 30; n++) {
                Check.due("play of weeks", x.play(), 30);
            }
            x.clearText();
        }
        for (int n = 0; n < (weeks >= 60 ? weeks % 30 : weeks); n++) {
            Check.holds("endWeek", x.endWeek() > 0);
        }
    }

    /** All that is told of the state but the text; at most 320 calls. */
    static String whole(PickSlots x) {
        StringBuilder told = new StringBuilder();
        int goods = x.count(0);
        for (int good = 0; good < goods; good++) {
            for (int what = 0; what <= 11; what++) {
                told.append(x.goodOf(good, what)).append(' ');
            }
        }
        for (int slot = 0; slot < 60; slot++) {
            told.append(x.slotOf(slot, 0)).append(' ');
        }
        for (int what = 0; what <= 7; what++) {
            told.append(x.account(what)).append(' ');
        }
        for (int what = 1; what <= 7; what++) {
            told.append(x.count(what)).append(' ');
        }
        for (int what = 20; what <= 22; what++) {
            told.append(x.count(what)).append(' ');
        }
        return told.toString();
    }
}
