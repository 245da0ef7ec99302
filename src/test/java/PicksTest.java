/** Promises 10 to 12: picks, refills and weeks. */
public final class PicksTest {
    public static void main(String[] args) {
        promise10Pick();
        promise10PickWithoutRefills();
        promise10PickErrors();
        promise11Refill();
        promise11Trips();
        promise12EndWeek();
        promise12Forecast();
        promise12Limit();
        Check.end();
    }

    private static void promise10Pick() {
        PickSlots x = new PickSlots();
        x.good(7, 10);
        x.place(0, 4);
        Check.due("nothing to pick", x.pick(0, 1), Check.IMPOSSIBLE);
        x.deliver(0, 14);
        Check.due("pick behind a refill of 10: 2 trips", x.pick(0, 4), 2 * (30 + 9) + 9);
        Check.due("units left", x.goodOf(0, 7), 6);
        Check.due("pick of all without a refill", x.pick(0, 6), 9);
        Check.due("pick behind a refill of 4: 1 trip", x.pick(0, 3), 30 + 9 + 9);
        Check.due("store is empty", x.goodOf(0, 8), 0);
        Check.due("too few, also behind a refill", x.pick(0, 2), Check.IMPOSSIBLE);
        Check.due("the last one", x.pick(0, 1), 9);
        Check.due("picks of the week", x.goodOf(0, 9), 4);
        Check.due("units picked", x.goodOf(0, 10), 14);
        Check.due("walked by picks", x.account(0), 36);
        Check.due("walked by refills", x.account(1), 117);
        Check.due("trips", x.account(3), 3);
        Check.due("picks", x.account(7), 4);
    }

    private static void promise10PickWithoutRefills() {
        PickSlots x = new PickSlots();
        x.good(1, 10);
        x.place(0, 1);
        x.deliver(0, 100);
        x.set(2, 0);
        Check.due("no refill by this pick", x.pick(0, 1), Check.IMPOSSIBLE);
        Check.due("nothing was brought", x.goodOf(0, 8), 100);
        x.refill(0);
        Check.due("pick of what is there", x.pick(0, 10), 4);
        Check.due("no more", x.pick(0, 1), Check.IMPOSSIBLE);
        x.set(2, 1);
        Check.due("refilled again", x.pick(0, 1), 34 + 4);
    }

    private static void promise10PickErrors() {
        PickSlots x = new PickSlots();
        Check.due("pick of no good", x.pick(0, 1), Check.INVALID);
        x.good(1, 200);
        x.good(1, 10);
        x.deliver(0, 500);
        x.deliver(1, 500);
        Check.due("in no slot", x.pick(0, 1), Check.IMPOSSIBLE);
        Check.due("in no slot, units out of range", x.pick(0, 0), Check.INVALID);
        x.place(0, 1);
        x.place(1, 2);
        Check.due("units 0", x.pick(0, 0), Check.INVALID);
        Check.due("units 201", x.pick(0, 201), Check.INVALID);
        Check.due("more than the capacity", x.pick(1, 11), Check.IMPOSSIBLE);
        Check.due("a pick that failed brings nothing", x.goodOf(1, 7), 0);
        Check.due("and walks nothing", x.account(1), 0);
        Check.due("units 200", x.pick(0, 200), 4 * 34 + 4);
        for (int wild : Check.WILD) {
            Check.due("pick units " + wild, x.pick(0, wild), Check.INVALID);
            Check.due("pick good " + wild, x.pick(wild, 1), Check.INVALID);
        }
    }

    private static void promise11Refill() {
        PickSlots x = new PickSlots();
        Check.due("refill of no good", x.refill(0), Check.INVALID);
        x.good(2, 20);
        x.deliver(0, 30);
        Check.due("in no slot", x.refill(0), Check.IMPOSSIBLE);
        x.place(0, 14);
        Check.due("up to the capacity", x.refill(0), 20);
        Check.due("none fits", x.refill(0), Check.IMPOSSIBLE);
        x.pick(0, 15);
        Check.due("what the store has", x.refill(0), 10);
        Check.due("in the slot", x.goodOf(0, 7), 15);
        Check.due("store is empty", x.refill(0), Check.IMPOSSIBLE);
        Check.due("walked: 40 and 20 kilograms, a trip each", x.account(1), 2 * (30 + 12));
        Check.due("trips", x.account(3), 2);
        Check.due("refills are no picks", x.account(7), 1);
        Check.due("refill 1", x.refill(1), Check.INVALID);
        for (int wild : Check.WILD) {
            Check.due("refill " + wild, x.refill(wild), Check.INVALID);
        }
    }

    private static void promise11Trips() {
        int[][] cases = { // weight, units, load, trips
            {40, 200, 1, 8000}, {40, 200, 500, 16}, {1, 1, 500, 1}, {3, 20, 60, 1}, {3, 21, 60, 2},
            {1, 121, 60, 3}, {1, 120, 60, 2}, {40, 1, 39, 2}};
        for (int[] c : cases) {
            PickSlots x = new PickSlots();
            x.good(c[0], 200);
            x.deliver(0, c[1]);
            x.place(0, 54);
            x.set(0, 200);
            x.set(1, c[2]);
            Check.due("brought", x.refill(0), c[1]);
            Check.due("trips of " + c[0] + " " + c[1] + " " + c[2], x.account(3), c[3]);
            Check.due("walk of the trips", x.account(1), c[3] * (200 + 43));
        }
        PickSlots x = new PickSlots();
        x.good(1, 1);
        x.deliver(0, 1);
        x.place(0, 1);
        x.set(0, 0);
        x.refill(0);
        Check.due("bulk distance 0", x.account(1), 4);
    }

    private static void promise12EndWeek() {
        PickSlots x = new PickSlots();
        for (int week = 1; week <= 60; week++) {
            Check.due("endWeek", x.endWeek(), week);
            Check.due("week", x.count(2), week);
            Check.due("season", x.count(3), week / 13 % 4);
            Check.due("weeks left", x.count(4), 13 - week % 13);
        }
    }

    private static void promise12Forecast() {
        PickSlots x = new PickSlots();
        x.good(1, 200);
        x.good(1, 200);
        x.good(1, 200);
        x.deliver(0, 200);
        x.place(0, 1);
        x.place(1, 2);
        x.demand(0, 0, 10);
        x.demand(0, 1, 77);
        x.demand(1, 0, 999);
        for (int n = 0; n < 5; n++) {
            x.pick(0, 2);
        }
        x.endWeek();
        Check.due("(30 + 5) / 4", x.goodOf(0, 2), 8);
        Check.due("(2997 + 0) / 4", x.goodOf(1, 2), 749);
        Check.due("goods in no slot, too", x.goodOf(2, 2), 0);
        Check.due("other seasons stay", x.goodOf(0, 3), 77);
        Check.due("picks of the new week", x.goodOf(0, 9), 0);
        Check.due("units picked so far stay", x.goodOf(0, 10), 10);
        Check.due("picks so far stay", x.account(7), 5);
        for (int week = 1; week < 13; week++) {
            x.endWeek();
        }
        Check.due("season 1", x.count(3), 1);
        Check.due("its demand is not touched by the week ahead of it", x.goodOf(0, 3), 77);
        x.demand(1, 1, 100);
        x.demand(2, 1, 5);
        x.endWeek();
        Check.due("(231 + 0) / 4", x.goodOf(0, 3), 57);
        Check.due("(300 + 0) / 4", x.goodOf(1, 3), 75);
        Check.due("(15 + 0) / 4, in no slot", x.goodOf(2, 3), 3);
    }

    /** More than 999 picks in a week are only reached by texts: 10 picks of a unit each a play. */
    private static void promise12Limit() {
        PickSlots x = new PickSlots();
        x.good(1, 200);
        x.deliver(0, 5000);
        x.place(0, 1);
        x.demand(0, 0, 999);
        Check.retype(x, "p0,1;p0,1;p0,1;p0,1;p0,1;p0,1;p0,1;p0,1;p0,1;p0,1;p0,1;p0,1;");
        for (int n = 0; n < 90; n++) {
            Check.due("play", x.play(), 12);
        }
        Check.due("picks", x.goodOf(0, 9), 1080);
        x.endWeek();
        Check.due("(2997 + 1080) / 4 would be 1019", x.goodOf(0, 2), 999);
        Check.retype(x, "w;w;w;w;w;w;w;w;w;w;w;w;w;w;w;w;w;w;w;w;w;w;w;w;w;w;w;w;w;w;");
        for (int n = 0; n < 33; n++) {
            x.play();
        }
        Check.due("week", x.count(2), 991);
        for (int week = 992; week <= 1000; week++) {
            Check.due("endWeek", x.endWeek(), week);
        }
        Check.due("endWeek at 1000", x.endWeek(), Check.LIMIT);
        Check.due("still 1000", x.count(2), 1000);
        Check.due("season", x.count(3), 0);
        Check.due("weeks left", x.count(4), 1);
        Check.retype(x, "w;");
        Check.due("reason at 1000", x.fault(1), 3);
    }
}
