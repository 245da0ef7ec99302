/** Boundary cases of the terms Picks and refills and Settings, and of the promises 10 to 12 and 22. */
public final class EdgesOfPicksTest {
    private static final int MIN = Integer.MIN_VALUE;
    private static final int MAX = Integer.MAX_VALUE;

    public static void main(String[] args) {
        Sentences.testAll(EdgesOfPicksTest.class);
    }

    private static void units(PickSlots x, String about, int inSlot, int inStore) {
        Check.due(about + ": units in the slot", x.goodOf(0, 7), inSlot);
        Check.due(about + ": units in the store", x.goodOf(0, 8), inStore);
    }

    // ---- Picks and refills

    @Sentence("By a pick of some units of a good, these are taken from its slot, and the walk to it is walked.")
    static void aPickCanEmptyTheSlot() {
        PickSlots x = Made.placed(5, 10, 59);
        x.deliver(0, 10);
        x.refill(0);
        Check.due("all but one", x.pick(0, 9), 49);
        units(x, "one is left", 1, 0);
        Check.due("the last one", x.pick(0, 1), 49);
        units(x, "none is left", 0, 0);
        Check.due("one more", x.pick(0, 1), Check.IMPOSSIBLE);
        Check.due("walked by picks", x.account(0), 98);
    }

    @Sentence("If there are fewer units in the slot, it is refilled first, as much as can be")
    static void refilledOnlyIfThereAreFewer() {
        PickSlots x = Made.placed(1, 10, 1);
        x.deliver(0, 100);
        x.good(1, 10);
        x.place(1, 2); // another slot that is empty does not matter
        Check.due("fewer: none", x.pick(0, 4), 34 + 4);
        units(x, "as much as can be", 6, 90);
        Check.due("as many as are picked", x.pick(0, 6), 4);
        units(x, "no refill", 0, 90);
        x.pick(0, 5);
        units(x, "a refill of 10", 5, 80);
        Check.due("one fewer", x.pick(0, 6), 34 + 4);
        units(x, "a refill of 5", 4, 75);
        Check.due("more than are picked", x.pick(0, 3), 4);
        units(x, "no refill", 1, 75);
        Check.due("trips", x.account(3), 3);
    }

    @Sentence("If there are fewer units in the slot, it is refilled first, as much as can be")
    static void refilledByWhatTheStoreHas() {
        PickSlots x = Made.placed(1, 10, 1);
        x.deliver(0, 4);
        Check.due("one more than there are", x.pick(0, 5), Check.IMPOSSIBLE);
        units(x, "nothing is brought", 0, 4);
        Check.due("all that there are", x.pick(0, 4), 34 + 4);
        units(x, "nothing is left", 0, 0);
        x.deliver(0, 10);
        x.pick(0, 7);
        x.deliver(0, 2);
        Check.due("one more than in both", x.pick(0, 6), Check.IMPOSSIBLE);
        units(x, "nothing is brought then", 3, 2);
        Check.due("all of both", x.pick(0, 5), 34 + 4);
        units(x, "nothing is left then", 0, 0);
    }

    @Sentence("(if refills by picks are on)")
    static void notRefilledIfOff() {
        PickSlots x = Made.placed(1, 10, 1);
        x.deliver(0, 100);
        x.set(2, 0);
        Check.due("off, and none in the slot", x.pick(0, 1), Check.IMPOSSIBLE);
        units(x, "nothing is brought", 0, 100);
        Check.due("a refill is possible", x.refill(0), 10);
        x.pick(0, 3);
        Check.due("off, and one fewer", x.pick(0, 8), Check.IMPOSSIBLE);
        units(x, "nothing is brought then", 7, 90);
        Check.due("off, and as many", x.pick(0, 7), 4);
        x.set(2, 1);
        Check.due("on again", x.pick(0, 1), 34 + 4);
        units(x, "refilled", 9, 80);
    }

    @Sentence("A refill brings as many units from the bulk store to the slot as the capacity and the store allow.")
    static void refillsByCapacityAndStore() {
        int[][] cases = { // capacity, units in the slot, units in the store, brought
            {10, 0, 9, 9}, {10, 0, 10, 10}, {10, 0, 11, 10}, {10, 9, 1, 1}, {10, 9, 2, 1}, {10, 8, 1, 1},
            {10, 10, 5, -2}, {10, 0, 0, -2}, {10, 4, 0, -2}, {1, 0, 5000, 1}, {200, 0, 5000, 200}};
        for (int[] c : cases) {
            PickSlots x = Made.placed(1, c[0], 1);
            if (c[1] > 0) {
                x.deliver(0, c[0]);
                x.refill(0);
                if (c[1] < c[0]) {
                    x.pick(0, c[0] - c[1]);
                }
            }
            if (c[2] > 0) {
                x.deliver(0, c[2]);
            }
            String about = "capacity " + c[0] + ", slot " + c[1] + ", store " + c[2];
            units(x, about, c[1], c[2]);
            Check.due(about, x.refill(0), c[3]);
            units(x, about + " then", c[1] + Math.max(0, c[3]), c[2] - Math.max(0, c[3]));
        }
    }

    @Sentence("It takes trips: the units times their weight / the load, rounded up")
    static void tripsAreRoundedUp() {
        int[][] cases = { // weight, units, load, trips
            {1, 1, 500, 1}, {1, 59, 60, 1}, {1, 60, 60, 1}, {1, 61, 60, 2}, {1, 120, 60, 2}, {1, 121, 60, 3},
            {30, 2, 60, 1}, {31, 2, 60, 2}, {29, 2, 60, 1}, {40, 1, 39, 2}, {40, 1, 40, 1}, {40, 1, 41, 1},
            {40, 200, 1, 8000}, {40, 200, 500, 16}, {40, 200, 499, 17}, {1, 1, 1, 1}, {7, 1, 2, 4}, {7, 3, 4, 6}};
        for (int[] c : cases) {
            PickSlots x = Made.placed(c[0], 200, 0);
            x.deliver(0, c[1]);
            x.set(1, c[2]);
            x.refill(0);
            Check.due("trips of " + c[1] + " units of " + c[0] + ", load " + c[2], x.account(3), c[3]);
            Check.due("walked", x.account(1), c[3] * (30 + 7));
            PickSlots y = Made.placed(c[0], 200, 0);
            y.deliver(0, c[1]);
            y.set(1, c[2]);
            Check.due("a pick with as many trips", y.pick(0, 1), c[3] * (30 + 7) + 7);
        }
    }

    @Sentence("each trip is a walk of the bulk distance plus the walk to the slot.")
    static void tripsOfTheLeastAndTheGreatestDistance() {
        int[][] cases = {{0, 1, 4}, {0, 59, 49}, {200, 1, 204}, {200, 59, 249}, {1, 0, 8}};
        for (int[] c : cases) {
            PickSlots x = Made.placed(1, 200, c[1]);
            x.deliver(0, 200);
            x.set(0, c[0]);
            x.refill(0);
            Check.due("4 trips of distance " + c[0] + " to slot " + c[1], x.account(1), 4 * c[2]);
        }
    }

    // ---- Settings

    @Sentence("0 the bulk distance (0 to 200; 30)")
    static void bulkDistance0To200() {
        rangeOfSetting(0, 0, 200, 30);
    }

    @Sentence("1 the load (1 to 500; 60)")
    static void load1To500() {
        rangeOfSetting(1, 1, 500, 60);
    }

    @Sentence("2 refills by picks (0 or 1; 1).")
    static void refillsByPicks0Or1() {
        rangeOfSetting(2, 0, 1, 1);
    }

    private static void rangeOfSetting(int what, int least, int greatest, int first) {
        PickSlots x = new PickSlots();
        Check.due("first value", x.count(20 + what), first);
        Check.due("below the least", x.set(what, least - 1), Check.INVALID);
        Check.due("above the greatest", x.set(what, greatest + 1), Check.INVALID);
        Check.due("far below", x.set(what, MIN), Check.INVALID);
        Check.due("far above", x.set(what, MAX), Check.INVALID);
        Check.due("first value still", x.count(20 + what), first);
        Check.due("the least", x.set(what, least), first);
        Check.due("it is the least", x.count(20 + what), least);
        Check.due("the greatest", x.set(what, greatest), least);
        Check.due("it is the greatest", x.count(20 + what), greatest);
        for (int other = 0; other < 3; other++) {
            if (other != what) {
                Check.due("setting " + other + " stays", x.count(20 + other), new int[] {30, 60, 1}[other]);
            }
        }
    }

    @Sentence("Returns what it was; INVALID_ARGUMENT if an argument is out of range.")
    static void promise22Answers() {
        PickSlots x = new PickSlots();
        for (int what : new int[] {-1, 3, 20, 22, MIN, MAX}) {
            Check.due("set " + what, x.set(what, 1), Check.INVALID);
        }
        Check.due("what 0", x.set(0, 1), 30);
        Check.due("what 1", x.set(1, 1), 60);
        Check.due("what 2", x.set(2, 1), 1);
        Check.due("what it was: 1", x.set(0, 0), 1);
        Check.due("what it was: 0", x.set(0, 0), 0);
        Check.due("a value of another range", x.set(2, 200), Check.INVALID);
        Check.due("a value of another range", x.set(0, 201), Check.INVALID);
        Check.due("a value of its own", x.set(1, 201), 1);
    }

    // ---- Promises 10 to 12

    @Sentence("Picks units of a good.")
    static void promise10Ranges() {
        PickSlots x = Made.light(2);
        x.deliver(1, 1000);
        x.place(1, 1);
        for (int good : new int[] {-1, 2, 20, MIN, MAX}) {
            Check.due("pick of " + good, x.pick(good, 1), Check.INVALID);
        }
        for (int units : new int[] {-1, 0, 201, MIN, MAX}) {
            Check.due("pick of units " + units, x.pick(1, units), Check.INVALID);
        }
        Check.due("1", x.pick(1, 1), 4 * 34 + 4);
        Check.due("200", x.pick(1, 200), 34 + 4);
        Check.due("units picked", x.goodOf(1, 10), 201);
    }

    @Sentence("Returns what is walked for this, refills included")
    static void promise10RefillsIncluded() {
        PickSlots x = Made.placed(40, 200, 0);
        x.deliver(0, 5000);
        x.set(0, 200);
        x.set(1, 1);
        Check.due("with 8000 trips", x.pick(0, 1), 8000 * 207 + 7);
        Check.due("without any", x.pick(0, 199), 7);
        Check.due("walked by picks", x.account(0), 14);
        Check.due("walked by refills", x.account(1), 8000 * 207);
        x.set(0, 0);
        x.set(1, 500);
        Check.due("with 16 trips", x.pick(0, 200), 16 * 7 + 7);
    }

    @Sentence("NOT_POSSIBLE if it is in no slot, or the slot has fewer units, also behind a refill "
            + "(if it is refilled by picks).")
    static void promise10NotPossible() {
        PickSlots x = Made.light(1);
        x.good(1, 10);
        x.deliver(0, 500);
        x.deliver(1, 500);
        Check.due("in no slot", x.pick(1, 1), Check.IMPOSSIBLE);
        x.place(1, 1);
        Check.due("more than the capacity", x.pick(1, 11), Check.IMPOSSIBLE);
        Check.due("much more", x.pick(1, 200), Check.IMPOSSIBLE);
        Check.due("nothing is brought", x.goodOf(1, 7), 0);
        Check.due("nothing is walked", x.account(1), 0);
        Check.due("nothing is picked", x.goodOf(1, 9), 0);
        Check.due("the capacity", x.pick(1, 10), 34 + 4);
        x.take(1);
        Check.due("in no slot any more", x.pick(1, 1), Check.IMPOSSIBLE);
    }

    @Sentence("Returns how many units are brought; INVALID_ARGUMENT; NOT_POSSIBLE if it is in no slot, "
            + "or none can be brought.")
    static void promise11Answers() {
        PickSlots x = Made.light(2);
        x.deliver(1, 202);
        for (int good : new int[] {-1, 2, 20, MIN, MAX}) {
            Check.due("refill " + good, x.refill(good), Check.INVALID);
        }
        Check.due("in no slot", x.refill(1), Check.IMPOSSIBLE);
        x.place(0, 1);
        x.place(1, 2);
        Check.due("the store is empty", x.refill(0), Check.IMPOSSIBLE);
        Check.due("as many as can be", x.refill(1), 200);
        Check.due("the slot is full", x.refill(1), Check.IMPOSSIBLE);
        x.pick(1, 1);
        Check.due("one", x.refill(1), 1);
        x.pick(1, 200);
        Check.due("the last one", x.refill(1), 1);
        Check.due("the store is empty then", x.refill(1), Check.IMPOSSIBLE);
        x.set(2, 0);
        x.deliver(1, 5);
        Check.due("refills by picks do not matter", x.refill(1), 5);
    }

    @Sentence("Returns the new week; LIMIT_REACHED if it would be greater than 1000.")
    static void promise12AtMostWeek1000() {
        PickSlots x = Made.light(1);
        Made.endWeeks(x, 998);
        Check.due("999", x.endWeek(), 999);
        x.demand(0, 0, 100);
        Check.due("1000", x.endWeek(), 1000);
        Check.due("weeks end at 1000, too", x.goodOf(0, 2), 75);
        Check.due("1001", x.endWeek(), Check.LIMIT);
        Check.due("week", x.count(2), 1000);
        Check.due("no demand is changed", x.goodOf(0, 2), 75);
        x.undo();
        Check.due("1000 again", x.endWeek(), 1000);
        Check.due("1001 again", x.endWeek(), Check.LIMIT);
    }
}
