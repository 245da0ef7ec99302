/** Boundary cases of the terms Moves and Accounts, and of the promises 13 to 17. */
public final class EdgesOfMovesTest {
    private static final int RAISE = Check.RAISE;
    private static final int[] HEAVIEST = {40, 30, 20, 15, 8, 5};
    private static final int MIN = Integer.MIN_VALUE;
    private static final int MAX = Integer.MAX_VALUE;

    public static void main(String[] args) {
        Sentences.testAll(EdgesOfMovesTest.class);
    }

    // ---- Moves

    @Sentence("To move a good to another slot that has none")
    static void onlyToASlotThatHasNone() {
        PickSlots x = Made.light(3);
        x.place(0, 0);
        x.place(1, 59);
        Check.due("to its own slot", x.move(0, 0), Check.IMPOSSIBLE);
        Check.due("to its own slot, the last one", x.move(1, 59), Check.IMPOSSIBLE);
        Check.due("to a slot that has a good", x.move(0, 59), Check.IMPOSSIBLE);
        Check.due("to slot 0, which has a good", x.move(1, 0), Check.IMPOSSIBLE);
        Check.due("to one that has none", x.move(0, 58), RAISE);
        Check.due("to one that was left", x.move(1, 0), RAISE);
        x.take(1);
        Check.due("to one whose good was taken", x.move(0, 0), RAISE);
        Check.due("moves", x.account(6), 3);
    }

    @Sentence("means that it goes there with its units.")
    static void unitsGoAlong() {
        PickSlots x = Made.placed(1, 200, 5);
        Check.due("without units", x.move(0, 4), RAISE);
        Check.due("none", x.goodOf(0, 7), 0);
        x.deliver(0, 250);
        x.refill(0);
        Check.due("with as many as can be", x.move(0, 59), RAISE);
        Check.due("all of them", x.goodOf(0, 7), 200);
        Check.due("the store stays", x.goodOf(0, 8), 50);
        Check.due("no trips", x.account(3), 4);
        Check.due("they can be picked there", x.pick(0, 200), 49);
    }

    @Sentence("To exchange two goods means that each goes to the slot of the other one with its units.")
    static void unitsAreExchangedAlong() {
        PickSlots x = Made.light(2);
        x.place(0, 0);
        x.place(1, 59);
        x.deliver(0, 200);
        x.refill(0);
        Check.due("exchange", x.exchange(0, 1), RAISE);
        Check.due("slot of 0", x.goodOf(0, 6), 59);
        Check.due("slot of 1", x.goodOf(1, 6), 0);
        Check.due("good in 59", x.slotOf(59, 0), 0);
        Check.due("good in 0", x.slotOf(0, 0), 1);
        Check.due("units of 0", x.goodOf(0, 7), 200);
        Check.due("units of 1", x.goodOf(1, 7), 0);
        Check.due("back", x.exchange(0, 1), RAISE);
        Check.due("slot of 0 again", x.goodOf(0, 6), 0);
        Check.due("slot of 1 again", x.goodOf(1, 6), 59);
    }

    @Sentence("Both are possible only if the goods may be at the heights.")
    static void movesToEachHeight() {
        for (int height = 1; height < 6; height++) {
            PickSlots x = new PickSlots();
            x.good(HEAVIEST[height], 1);
            x.good(HEAVIEST[height] + 1, 1);
            x.place(0, 0);
            x.place(1, 6);
            Check.due("one too heavy at height " + height, x.move(1, 12 + height), Check.IMPOSSIBLE);
            Check.due("nor is it worth anything", x.worth(1, 12 + height, 0), Check.IMPOSSIBLE);
            Check.due("as heavy as may be at height " + height, x.move(0, 12 + height), RAISE);
        }
    }

    @Sentence("Both are possible only if the goods may be at the heights.")
    static void exchangesOfEachTwoHeights() {
        for (int low = 0; low < 6; low++) {
            for (int high = low + 1; high < 6; high++) {
                PickSlots x = new PickSlots();
                x.good(HEAVIEST[high] + 1, 1);
                x.good(HEAVIEST[high], 1);
                x.good(HEAVIEST[high], 1);
                x.place(0, low);
                x.place(1, 6 + high);
                x.place(2, 12 + low);
                String about = "heights " + low + " and " + high;
                Check.due(about + ": the one is too heavy", x.exchange(0, 1), Check.IMPOSSIBLE);
                Check.due(about + ": the other is too heavy", x.exchange(1, 0), Check.IMPOSSIBLE);
                Check.due(about + ": nor is it worth anything", x.worth(0, 6 + high, 0), Check.IMPOSSIBLE);
                Check.due(about + ": nor told from the other one", x.worth(1, low, 0), Check.IMPOSSIBLE);
                Check.due(about + ": as heavy as may be", x.exchange(2, 1), RAISE);
                Check.due(about + ": and back", x.exchange(2, 1), RAISE);
            }
        }
    }

    @Sentence("A move is a walk of 4 times the difference of the columns, plus the reaches of both slots, "
            + "plus the weight of the good")
    static void walksOfMoves() {
        int[][] cases = { // weight, from, to, walk
            {1, 1, 2, 1}, {20, 2, 1, 20}, {1, 0, 54, 36 + 6 + 1}, {40, 54, 0, 36 + 6 + 40}, {5, 5, 59, 36 + 18 + 5},
            {5, 59, 5, 36 + 18 + 5}, {5, 59, 0, 36 + 9 + 3 + 5}, {1, 5, 6, 4 + 9 + 3 + 1}, {1, 0, 5, 12 + 1},
            {1, 54, 59, 12 + 1}, {1, 59, 53, 4 + 18 + 1}, {2, 20, 44, 16 + 2}, {2, 45, 20, 16 + 2 + 2}};
        for (int[] c : cases) {
            PickSlots x = Made.placed(c[0], 1, c[1]);
            String about = "weight " + c[0] + " from " + c[1] + " to " + c[2];
            Check.due(about + " is told", x.worth(0, c[2], 2), c[3]);
            x.move(0, c[2]);
            Check.due(about + " is walked", x.account(2), c[3]);
        }
    }

    @Sentence("an exchange is a walk of the moves of both goods together.")
    static void walksOfExchanges() {
        int[][] cases = { // weights, slots, walk
            {1, 1, 1, 2, 2}, {20, 3, 1, 2, 23}, {5, 5, 5, 59, 2 * 54 + 10}, {40, 40, 0, 54, 2 * 42 + 80},
            {1, 40, 6, 0, 2 * 10 + 41}};
        for (int[] c : cases) {
            PickSlots x = new PickSlots();
            x.good(c[0], 1);
            x.good(c[1], 1);
            x.place(0, c[2]);
            x.place(1, c[3]);
            Check.due("told of the one", x.worth(0, c[3], 2), c[4]);
            Check.due("told of the other one", x.worth(1, c[2], 2), c[4]);
            x.exchange(0, 1);
            Check.due("walked", x.account(2), c[4]);
        }
    }

    @Sentence("What a move or an exchange saves is the weekly walk of the present season ahead of it "
            + "less that behind it (it may be below 0).")
    static void savingsAbove0At0AndBelow() {
        PickSlots x = Made.light(2);
        x.demand(0, 0, 999);
        x.demand(1, 1, 999); // of another season
        x.place(0, 59);
        Check.due("the greatest of a move", x.move(0, 1), RAISE + 999 * 45);
        Check.due("none between equal walks", x.move(0, 2), RAISE);
        Check.due("the least of a move", x.move(0, 59), RAISE - 999 * 45);
        x.place(1, 1);
        Check.due("the greatest of an exchange", x.exchange(1, 0), RAISE + 999 * 45);
        Check.due("the least of an exchange", x.exchange(1, 0), RAISE - 999 * 45);
        x.demand(1, 0, 999);
        Check.due("none of equal demands", x.exchange(0, 1), RAISE);
        x.demand(0, 0, 0);
        Check.due("none without a demand", x.move(0, 3), RAISE);
    }

    @Sentence("It is worth what it saves times the weeks from the present one to the last one of its season "
            + "(both included), less its walk.")
    static void weeksToTheLastOneOfTheSeason() {
        int[][] weeks = {{0, 13}, {1, 12}, {11, 2}, {12, 1}, {13, 13}, {25, 1}, {26, 13}, {51, 1}, {52, 13},
            {987, 1}, {988, 13}, {1000, 1}};
        for (int[] w : weeks) {
            PickSlots x = Made.placed(1, 1, 59);
            Made.endWeeks(x, w[0]);
            for (int season = 0; season < 4; season++) {
                x.demand(0, season, season == w[0] / 13 % 4 ? 10 : 999);
            }
            Check.due("nearer in week " + w[0], x.worth(0, 1, 0), RAISE + w[1] * 450 - 46);
            x.move(0, 1);
            Check.due("farther in week " + w[0], x.worth(0, 59, 0), RAISE - w[1] * 450 - 46);
        }
    }

    @Sentence("It is worth what it saves times the weeks from the present one to the last one of its season "
            + "(both included), less its walk.")
    static void worthOfNoSaving() {
        PickSlots x = Made.light(2);
        x.place(0, 1);
        Check.due("a move that saves nothing", x.worth(0, 2, 0), RAISE - 1);
        x.place(1, 2);
        Check.due("an exchange that saves nothing", x.worth(0, 2, 0), RAISE - 2);
        x.demand(0, 0, 999);
        x.move(0, 59);
        Check.due("the greatest", x.worth(0, 1, 0), RAISE + 13 * 999 * 45 - 46);
    }

    // ---- Accounts

    private static void base(PickSlots x, String about, int base) {
        Check.due("base " + about, x.account(5), RAISE + base);
    }

    @Sentence("by placing and taking goods")
    static void baseByPlacingAndTaking() {
        PickSlots x = Made.light(2);
        x.demand(0, 0, 999);
        x.demand(1, 1, 999);
        base(x, "of goods in no slot", 0);
        x.place(0, 59);
        base(x, "by placing", 999 * 49);
        x.place(1, 58);
        base(x, "by placing one without a demand", 999 * 49);
        x.take(0);
        base(x, "by taking", 0);
        x.place(0, 1);
        x.move(0, 59);
        x.take(0);
        base(x, "below 0: placed near, taken far away", 999 * 4 - 999 * 49);
        Check.due("saved as much", x.account(4), RAISE + 999 * 4 - 999 * 49);
        Check.due("no weekly walk", x.weekly(0), 0);
    }

    @Sentence("by demands")
    static void baseByDemands() {
        PickSlots x = Made.light(2);
        x.place(0, 59);
        x.demand(0, 0, 999);
        base(x, "by a demand", 999 * 49);
        x.demand(0, 0, 999);
        base(x, "by the same one", 999 * 49);
        x.demand(0, 1, 500);
        base(x, "by one of another season", 999 * 49);
        x.demand(1, 0, 500);
        base(x, "by one of a good in no slot", 999 * 49);
        x.demand(0, 0, 0);
        base(x, "by no demand", 0);
    }

    @Sentence("and by the end of a week (the change of the season included).")
    static void baseByTheEndOfAWeek() {
        PickSlots x = Made.placed(1, 1, 1);
        x.demand(0, 0, 100);
        x.demand(0, 1, 7);
        x.endWeek();
        base(x, "by the end of a week", 75 * 4);
        Made.endWeeks(x, 11);
        x.demand(0, 0, 100);
        base(x, "in the last week of the season", 100 * 4);
        x.endWeek();
        Check.due("the season changes", x.count(3), 1);
        base(x, "by the change of the season", 7 * 4);
        Check.due("demand of the season before", x.goodOf(0, 2), 75);
        Made.endWeeks(x, 38);
        x.demand(0, 3, 0);
        x.demand(0, 0, 9);
        base(x, "in week 51", 0);
        x.endWeek();
        Check.due("seasons begin anew", x.count(3), 0);
        base(x, "by the first season again", 9 * 4);
    }

    @Sentence("the sum of all changes of weekly walks of the present season by anything but moves and exchanges")
    static void baseIsNotChangedByMoves() {
        PickSlots x = Made.light(2);
        x.deliver(0, 500);
        x.place(0, 59);
        x.place(1, 1);
        x.demand(0, 0, 100);
        x.move(0, 58);
        base(x, "behind a move", 4900);
        x.exchange(0, 1);
        base(x, "behind an exchange", 4900);
        x.move(0, 57);
        Check.due("improve", x.improve(10), 1);
        base(x, "behind improving", 4900);
        Check.retype(x, "m0,59;x0,1;");
        Check.due("play", x.play(), 2);
        base(x, "behind orders", 4900);
        x.pick(0, 1);
        x.refill(0);
        x.deliver(0, 1);
        x.set(1, 1);
        x.good(1, 1);
        base(x, "behind what changes no weekly walk", 4900);
    }

    @Sentence("So the weekly walk of the present season is the base less all that moves and exchanges saved so far.")
    static void weeklyWalkIsTheBaseLessTheSavings() {
        PickSlots x = Made.light(2);
        int base = 0;
        int saved = 0;
        for (int step = 0; step < 30; step++) {
            int before = x.weekly(x.count(3));
            int way = step % 6;
            if (way == 2 || way == 4) {
                saved += (way == 2 ? x.move(0, 59 - step % 12) : x.exchange(0, 1)) - RAISE;
            } else {
                otherStep(x, step);
                base += x.weekly(x.count(3)) - before;
            }
            Check.due("saved at step " + step, x.account(4), RAISE + saved);
            Check.due("base at step " + step, x.account(5), RAISE + base);
            Check.due("walk at step " + step, x.weekly(x.count(3)), base - saved);
        }
    }

    private static void otherStep(PickSlots x, int step) {
        switch (step % 6) {
            case 0:
                x.place(0, step % 12);
                x.place(1, 20 + step % 12);
                break;
            case 1:
                x.demand(0, x.count(3), 10 * step);
                x.demand(1, x.count(3), 999 - 30 * step);
                break;
            case 3:
                Made.endWeeks(x, 5);
                break;
            default:
                x.take(0);
                x.take(1);
                break;
        }
    }

    // ---- Promises 13 to 17

    @Sentence("Returns 100000000 more than what it saves; INVALID_ARGUMENT if an argument is out of range; "
            + "NOT_POSSIBLE if the good is in no slot, the slot has a good, or the good is too heavy for it.")
    static void promise13Answers() {
        PickSlots x = Made.light(1);
        x.good(31, 1);
        for (int good : new int[] {-1, 2, 20, MIN, MAX}) {
            Check.due("move " + good, x.move(good, 0), Check.INVALID);
        }
        for (int slot : new int[] {-1, 60, MIN, MAX}) {
            Check.due("move to " + slot, x.move(0, slot), Check.INVALID);
        }
        Check.due("in no slot", x.move(1, 6), Check.IMPOSSIBLE);
        x.place(0, 0);
        x.place(1, 6);
        x.demand(0, 0, 1);
        x.demand(1, 0, 1);
        Check.due("the slot has a good", x.move(1, 0), Check.IMPOSSIBLE);
        Check.due("too heavy by one", x.move(1, 7), Check.IMPOSSIBLE);
        Check.due("1 below 0", x.move(1, 54), RAISE - 32);
        Check.due("to the last slot", x.move(0, 59), RAISE - 42);
        Check.due("to the first slot", x.move(0, 0), RAISE + 42);
    }

    @Sentence("Returns 100000000 more than what it saves; INVALID_ARGUMENT if there is no such good or both are the same; "
            + "NOT_POSSIBLE if one of them is in no slot, or too heavy for the slot of the other one.")
    static void promise14Answers() {
        PickSlots x = Made.light(2);
        x.good(31, 1);
        for (int good : new int[] {-1, 3, 20, MIN, MAX}) {
            Check.due("exchange " + good, x.exchange(good, 0), Check.INVALID);
            Check.due("exchange with " + good, x.exchange(0, good), Check.INVALID);
        }
        Check.due("both are the same, in no slot", x.exchange(0, 0), Check.INVALID);
        Check.due("both in no slot", x.exchange(0, 1), Check.IMPOSSIBLE);
        x.place(0, 1);
        Check.due("both are the same", x.exchange(0, 0), Check.INVALID);
        Check.due("the other is in no slot", x.exchange(0, 1), Check.IMPOSSIBLE);
        Check.due("the one is in no slot", x.exchange(1, 0), Check.IMPOSSIBLE);
        x.place(2, 0);
        Check.due("the one is too heavy", x.exchange(2, 0), Check.IMPOSSIBLE);
        Check.due("the other is too heavy", x.exchange(0, 2), Check.IMPOSSIBLE);
        x.place(1, 59);
        x.demand(1, 0, 1);
        Check.due("possible", x.exchange(0, 1), RAISE + 45);
        Check.due("possible the other way", x.exchange(0, 1), RAISE - 45);
        Check.due("exchanges", x.account(6), 2);
    }

    @Sentence("Tells what it would be worth to move a good to a slot, or, if that has another good, to exchange both.")
    static void promise15AnswersOfWhat() {
        PickSlots x = Made.light(2);
        x.demand(0, 0, 2);
        x.demand(1, 0, 5);
        x.place(0, 0);
        x.place(1, 59);
        Check.due("a move: worth", x.worth(0, 58, 0), RAISE - 13 * 2 * 38 - (36 + 3 + 5 + 1));
        Check.due("a move: saved", x.worth(0, 58, 1), RAISE - 2 * 38);
        Check.due("a move: walk", x.worth(0, 58, 2), 36 + 3 + 5 + 1);
        Check.due("a move of the other one: saved", x.worth(1, 1, 1), RAISE + 5 * 45);
        Check.due("an exchange: worth", x.worth(0, 59, 0), RAISE + 13 * 3 * 42 - 2 * (36 + 3 + 9 + 1));
        Check.due("an exchange: saved", x.worth(0, 59, 1), RAISE + 3 * 42);
        Check.due("an exchange: walk", x.worth(0, 59, 2), 2 * (36 + 3 + 9 + 1));
        Check.due("nothing is moved", x.goodOf(0, 6), 0);
        Check.due("nothing is walked", x.account(2), 0);
    }

    @Sentence("Returns the number; INVALID_ARGUMENT if an argument is out of range; NOT_POSSIBLE if the good is in no slot, "
            + "it is in this one, or it is not possible.")
    static void promise15Errors() {
        PickSlots x = Made.light(1);
        x.good(31, 1);
        x.good(1, 1);
        for (int good : new int[] {-1, 3, 20, MIN, MAX}) {
            Check.due("worth of " + good, x.worth(good, 0, 0), Check.INVALID);
        }
        for (int slot : new int[] {-1, 60, MIN, MAX}) {
            Check.due("worth to " + slot, x.worth(0, slot, 0), Check.INVALID);
        }
        for (int what : new int[] {-1, 3, MIN, MAX}) {
            Check.due("worth what " + what, x.worth(0, 0, what), Check.INVALID);
        }
        x.place(1, 0);
        for (int what = 0; what < 3; what++) {
            Check.due("in no slot, to one without a good", x.worth(0, 1, what), Check.IMPOSSIBLE);
            Check.due("in no slot, to one with a good", x.worth(0, 0, what), Check.IMPOSSIBLE);
            Check.due("in this one", x.worth(1, 0, what), Check.IMPOSSIBLE);
            Check.due("too heavy", x.worth(1, 1, what), Check.IMPOSSIBLE);
        }
        x.place(2, 59);
        for (int what = 0; what < 3; what++) {
            Check.due("too heavy for an exchange", x.worth(1, 59, what), Check.IMPOSSIBLE);
            Check.due("the other one is too heavy", x.worth(2, 0, what), Check.IMPOSSIBLE);
        }
    }

    private static void best(PickSlots x, String about, int good, int slot, int worth) {
        Check.due(about + ": good", x.best(0), good);
        Check.due(about + ": slot", x.best(1), slot);
        Check.due(about + ": worth", x.best(2), worth);
    }

    @Sentence("Finds what is worth most of all moves and exchanges that are possible")
    static void promise16OnlyPossibleOnes() {
        PickSlots x = Made.placed(31, 1, 54);
        x.demand(0, 0, 999);
        best(x, "too heavy for slots 1 and 2", 0, 0, 13 * 999 * 36 - (36 + 6 + 31));
        PickSlots y = new PickSlots();
        y.good(20, 1);
        y.good(21, 1);
        y.good(20, 1);
        y.demand(0, 0, 999);
        y.demand(2, 0, 50);
        y.place(0, 56);
        y.place(1, 1);
        y.place(2, 2);
        best(y, "good 1, without a demand, is too heavy for slot 56", 0, 2, 13 * 949 * 36 - (2 * 36 + 40));
    }

    @Sentence("of several that of the lowest good, then the lowest slot (an exchange is told by its lower good).")
    static void promise16LowestGood() {
        PickSlots x = Made.light(20);
        x.demand(18, 0, 5);
        x.demand(19, 0, 5);
        x.place(19, 25);
        x.place(18, 26);
        best(x, "of two that are worth the same the lower good", 18, 1, 13 * 5 * 16 - 17);
        x.move(19, 31);
        best(x, "what is worth more rather than the lower good", 19, 1, 13 * 5 * 20 - 21);
    }

    @Sentence("of several that of the lowest good, then the lowest slot (an exchange is told by its lower good).")
    static void promise16LowestSlot() {
        PickSlots x = Made.light(1);
        x.demand(0, 0, 5);
        x.place(0, 55);
        best(x, "slots 1 and 2 are worth the same", 0, 1, 13 * 5 * 36 - 37);
        x.good(1, 1);
        x.place(1, 1);
        best(x, "slot 2 is worth more than an exchange", 0, 2, 13 * 5 * 36 - 37);
        x.good(40, 1);
        x.demand(2, 0, 500);
        x.place(2, 54);
        best(x, "slot 0, the only height of a heavy good", 2, 0, 13 * 500 * 36 - (36 + 6 + 40));
    }

    @Sentence("of several that of the lowest good, then the lowest slot (an exchange is told by its lower good).")
    static void promise16LowerGoodOfAnExchange() {
        int[][] demands = {{1, 100}, {100, 1}};
        for (int[] d : demands) {
            PickSlots x = new PickSlots();
            for (int n = 0; n < 10; n++) {
                x.good(31, 1);
                x.place(n, 6 * ((n + 1) % 10)); // all slots for them, the last good in slot 0
            }
            x.demand(8, 0, d[0]);
            x.demand(9, 0, d[1]);
            if (d[0] < d[1]) {
                x.exchange(8, 9); // good 8 in slot 0, good 9 in slot 54
            }
            int worth = 13 * 99 * 36 - 2 * (36 + 6 + 31);
            best(x, "demands " + d[0] + " and " + d[1], 8, d[0] < d[1] ? 54 : 0, worth);
            Check.due("as much from good 9", x.worth(9, x.goodOf(8, 6), 0), RAISE + worth);
        }
    }

    @Sentence("NOT_FOUND if none is worth more than 0.")
    static void promise16MoreThan0() {
        int[][] cases = {{23, 1}, {24, 0}, {25, -1}}; // weight, worth of going to slot 1
        for (int[] c : cases) {
            PickSlots x = Made.placed(c[0], 1, 0);
            Made.endWeeks(x, 10);
            x.demand(0, 0, 3);
            Check.due("worth with weight " + c[0], x.worth(0, 1, 0), RAISE + c[1]);
            if (c[1] > 0) {
                best(x, "worth 1", 0, 1, 1);
            } else {
                best(x, "not more than 0", Check.MISSING, Check.MISSING, Check.MISSING);
            }
            Check.due("improve", x.improve(1), c[1] > 0 ? 1 : Check.MISSING);
        }
    }

    @Sentence("Returns the number; INVALID_ARGUMENT if what is out of range; NOT_FOUND if none is worth more than 0.")
    static void promise16Answers() {
        PickSlots x = new PickSlots();
        best(x, "no goods", Check.MISSING, Check.MISSING, Check.MISSING);
        x.good(31, 1);
        x.demand(0, 0, 999);
        best(x, "none in slots", Check.MISSING, Check.MISSING, Check.MISSING);
        x.place(0, 0);
        best(x, "none can be better", Check.MISSING, Check.MISSING, Check.MISSING);
        x.move(0, 54);
        best(x, "good 0 to slot 0", 0, 0, 13 * 999 * 36 - (36 + 6 + 31));
        for (int what : new int[] {-1, 3, MIN, MAX}) {
            Check.due("best " + what, x.best(what), Check.INVALID);
        }
    }

    @Sentence("Does what is worth most, as best() finds it, some times one after the other, as long as there is something.")
    static void promise17AsLongAsThereIsSomething() {
        for (int times = 1; times <= 4; times++) {
            PickSlots x = Made.light(3);
            for (int good = 0; good < 3; good++) {
                x.demand(good, 0, 100 - 40 * good); // far apart: no exchange is worth it behind them
                x.place(good, 59 - good);
            }
            Check.due("improve " + times, x.improve(times), Math.min(times, 3));
            Check.due("moves", x.account(6), Math.min(times, 3));
            int left = x.improve(10);
            Check.due("what is left", left, times >= 3 ? Check.MISSING : 3 - times);
            Check.due("slot of 0", x.goodOf(0, 6), 1);
            Check.due("slot of 1", x.goodOf(1, 6), 2);
            Check.due("slot of 2", x.goodOf(2, 6), 3);
            Check.due("nothing is left", x.best(0), Check.MISSING);
        }
    }

    @Sentence("Does what is worth most, as best() finds it, some times one after the other, as long as there is something.")
    static void promise17DoesWhatBestFinds() {
        PickSlots x = Made.placed(31, 1, 54);
        x.demand(0, 0, 10);
        Check.due("good 0", x.best(0), 0);
        Check.due("to slot 0", x.best(1), 0);
        Check.due("is something", x.improve(10), 1);
        Check.due("and done", x.goodOf(0, 6), 0);
        x.good(32, 1);
        x.demand(1, 0, 999);
        x.place(1, 54);
        Check.due("good 1 is worth most", x.best(2), 13 * 989 * 36 - (2 * (36 + 6) + 63));
        Check.due("told by good 0", x.best(1), 54);
        Check.due("the exchange, then the way that is left", x.improve(10), 2);
        Check.due("good 1 is exchanged", x.goodOf(1, 6), 0);
        Check.due("good 0 is moved then", x.goodOf(0, 6), 6);
    }

    @Sentence("Returns how often something was done; INVALID_ARGUMENT if times is out of range; "
            + "NOT_FOUND if there is nothing.")
    static void promise17Answers() {
        PickSlots x = Made.light(12);
        Check.due("nothing", x.improve(1), Check.MISSING);
        Check.due("nothing 10 times", x.improve(10), Check.MISSING);
        for (int good = 0; good < 12; good++) {
            x.demand(good, 0, 999);
            x.place(good, 48 + good);
        }
        for (int times : new int[] {-1, 0, 11, MIN, MAX}) {
            Check.due("improve " + times, x.improve(times), Check.INVALID);
        }
        Check.due("nothing is moved", x.account(6), 0);
        Check.due("1", x.improve(1), 1);
        Check.due("10", x.improve(10), 10);
        Check.due("moves", x.account(6), 11);
        Check.due("the last one", x.improve(10), 1);
        Check.due("nothing is left", x.improve(10), Check.MISSING);
    }
}
