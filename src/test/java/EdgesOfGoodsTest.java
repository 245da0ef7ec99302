/** Boundary cases of the terms Slots, Goods and Weeks, and of the promises 1 to 9. */
public final class EdgesOfGoodsTest {
    private static final int[] HEAVIEST = {40, 30, 20, 15, 8, 5};
    private static final int MIN = Integer.MIN_VALUE;
    private static final int MAX = Integer.MAX_VALUE;

    public static void main(String[] args) {
        Sentences.testAll(EdgesOfGoodsTest.class);
    }

    // ---- Slots

    @Sentence("There are 60 slots, numbered from 0")
    static void thereAreSlots0To59() {
        PickSlots x = Made.light(2);
        Check.due("the first", x.slotOf(0, 0), Check.MISSING);
        Check.due("the last", x.slotOf(59, 0), Check.MISSING);
        Check.due("ahead of the first", x.slotOf(-1, 0), Check.INVALID);
        Check.due("behind the last", x.slotOf(60, 0), Check.INVALID);
        Check.due("into one behind the last", x.place(0, 60), Check.INVALID);
        Check.due("into one ahead of the first", x.place(0, -1), Check.INVALID);
        Check.due("into the first", x.place(0, 0), 7);
        Check.due("into the last", x.place(1, 59), 49);
    }

    @Sentence("slot n is in the column n / 6 (0 to 9) and at the height n mod 6.")
    static void columnsBeginAnewEvery6Slots() {
        PickSlots x = Made.placed(1, 1, 5);
        Check.due("slot 5 is at height 5", x.slotOf(5, 2), 5);
        Check.due("slot 6 is at height 0", x.slotOf(6, 2), 40);
        Check.due("slot 53 is at height 5", x.slotOf(53, 2), 5);
        Check.due("slot 54 is at height 0", x.slotOf(54, 2), 40);
        Check.due("slots 5 and 0: one column", x.worth(0, 0, 2), 9 + 3 + 1);
        Check.due("slots 5 and 6: the next column", x.worth(0, 6, 2), 4 + 9 + 3 + 1);
        Check.due("slots 5 and 11: the next column", x.worth(0, 11, 2), 4 + 9 + 9 + 1);
        Check.due("slots 5 and 12: two columns", x.worth(0, 12, 2), 8 + 9 + 3 + 1);
        Check.due("slots 5 and 59: nine columns", x.worth(0, 59, 2), 36 + 9 + 9 + 1);
    }

    @Sentence("A walk to a slot is 4 times its column plus 4, plus a reach by its height: "
            + "3, 0, 0, 2, 5 and 9 for the heights 0 to 5.")
    static void walksOfTheFirstAndTheLastColumn() {
        PickSlots x = new PickSlots();
        int[] first = {7, 4, 4, 6, 9, 13};
        int[] second = {11, 8, 8, 10, 13, 17};
        int[] last = {43, 40, 40, 42, 45, 49};
        for (int height = 0; height < 6; height++) {
            Check.due("column 0, height " + height, x.slotOf(height, 1), first[height]);
            Check.due("column 1, height " + height, x.slotOf(6 + height, 1), second[height]);
            Check.due("column 9, height " + height, x.slotOf(54 + height, 1), last[height]);
        }
    }

    @Sentence("Goods may not be heavier than 40, 30, 20, 15, 8 and 5 at the heights 0 to 5.")
    static void asHeavyAsMayBeAndOneHeavier() {
        for (int height = 0; height < 6; height++) {
            PickSlots x = new PickSlots();
            x.good(HEAVIEST[height], 1);
            if (height > 0) {
                x.good(HEAVIEST[height] + 1, 1);
                Check.due("heavier at height " + height, x.place(1, height), Check.IMPOSSIBLE);
                Check.due("heavier in column 9", x.place(1, 54 + height), Check.IMPOSSIBLE);
            }
            Check.holds("as heavy at height " + height, x.place(0, height) > 0);
            x.take(0);
            Check.holds("as heavy in column 9", x.place(0, 54 + height) > 0);
        }
    }

    @Sentence("divisions are rounded down, where it is not told that they are rounded up")
    static void divisionsAreRoundedDown() {
        PickSlots x = Made.placed(1, 1, 11);
        Check.due("11 / 6 is column 1", x.slotOf(11, 1), 4 + 4 + 9);
        Check.due("59 / 6 is column 9", x.slotOf(59, 1), 36 + 4 + 9);
        x.demand(0, 0, 5);
        x.endWeek();
        Check.due("3 * 5 / 4 is 3", x.goodOf(0, 2), 3);
        Made.endWeeks(x, 24);
        Check.due("25 / 13 is 1", x.count(3), 1);
        x.deliver(0, 1);
        x.refill(0);
        Check.due("1 / 60 is 1, for trips are rounded up", x.account(3), 1);
    }

    // ---- Goods

    @Sentence("There are at most 20 goods, numbered from 0")
    static void goods0To19() {
        PickSlots x = Made.light(19);
        Check.due("no good 19", x.goodOf(19, 0), Check.INVALID);
        Check.due("the 20th", x.good(2, 2), 19);
        Check.due("the 21st", x.good(2, 2), Check.LIMIT);
        Check.due("good 19", x.goodOf(19, 0), 2);
        Check.due("no good 20", x.goodOf(20, 0), Check.INVALID);
        Check.due("goods", x.count(0), 20);
    }

    /** 20 goods that differ in all; calls for the first, one between and the last one. */
    @Sentence("There are at most 20 goods, numbered from 0, each with")
    static void eachGoodHasItsOwn() {
        PickSlots x = new PickSlots();
        for (int good = 0; good < 20; good++) {
            x.good(1 + good % 5, 20 + 2 * good);
            x.demand(good, 0, 401 - 10 * good);
            x.deliver(good, 100 + good);
            x.place(good, 59 - 2 * good);
        }
        int pickWalks = 0;
        for (int good : new int[] {0, 8, 19}) {
            int walk = x.slotOf(59 - 2 * good, 1);
            int trips = ((20 + 2 * good) * (1 + good % 5) + 59) / 60;
            Check.due("pick of " + good, x.pick(good, 10 + good), trips * (30 + walk) + walk);
            pickWalks += walk;
        }
        Check.due("walked by picks", x.account(0), pickWalks);
        x.endWeek();
        Check.due("move of 8", x.move(8, 1), Check.RAISE + 241 * 28);
        Check.due("walk of its move", x.account(2), 4 * 7 + 4);
        Check.due("units of 8", x.take(8), 18);
        for (int good = 0; good < 20; good++) {
            ownNumbers(x, good, good == 0 || good == 8 || good == 19);
        }
    }

    private static void ownNumbers(PickSlots x, int good, boolean picked) {
        int weight = 1 + good % 5;
        int demand = (3 * (401 - 10 * good) + (picked ? 1 : 0)) / 4;
        int inSlot = picked && good != 8 ? 10 + good : 0;
        int units = picked ? 10 + good : 0;
        int slot = good == 8 ? Check.MISSING : 59 - 2 * good;
        int[] told = {weight, 20 + 2 * good, demand, 0, 0, 0, slot, inSlot, 100 + good - units - inSlot, 0, units, 5};
        for (int what = 0; what < told.length; what++) {
            Check.due("goodOf " + good + " " + what, x.goodOf(good, what), told[what]);
        }
    }

    @Sentence("each with a weight (1 to 40) of a unit")
    static void weights1To40() {
        PickSlots x = new PickSlots();
        Check.due("weight 0", x.good(0, 1), Check.INVALID);
        Check.due("weight 1", x.good(1, 1), 0);
        Check.due("weight 40", x.good(40, 1), 1);
        Check.due("weight 41", x.good(41, 1), Check.INVALID);
        Check.due("it weighs 1", x.goodOf(0, 0), 1);
        Check.due("it weighs 40", x.goodOf(1, 0), 40);
    }

    @Sentence("a capacity (1 to 200), which is how many units a slot takes of it")
    static void slotsTakeTheCapacity() {
        PickSlots x = new PickSlots();
        Check.due("capacity 0", x.good(1, 0), Check.INVALID);
        Check.due("capacity 1", x.good(1, 1), 0);
        Check.due("capacity 200", x.good(1, 200), 1);
        Check.due("capacity 201", x.good(1, 201), Check.INVALID);
        for (int good = 0; good < 2; good++) {
            x.place(good, 1 + good);
            x.deliver(good, 5000);
            Check.due("the slot takes", x.refill(good), good == 0 ? 1 : 200);
            Check.due("and is full", x.refill(good), Check.IMPOSSIBLE);
        }
    }

    @Sentence("units in the bulk store (0 at first)")
    static void storeIsEmptyAtFirst() {
        PickSlots x = Made.placed(1, 10, 1);
        Check.due("units in the store", x.goodOf(0, 8), 0);
        Check.due("nothing to bring", x.refill(0), Check.IMPOSSIBLE);
        Check.due("of all goods", x.count(6), 0);
        x.deliver(0, 7);
        x.good(1, 1);
        Check.due("of a later good", x.goodOf(1, 8), 0);
    }

    @Sentence("a demand for each of 4 seasons, in picks a week (0 to 999; 0 at first)")
    static void demandsOf4Seasons() {
        PickSlots x = Made.light(2);
        for (int season = 0; season < 4; season++) {
            Check.due("at first", x.goodOf(0, 2 + season), 0);
            Check.due("1000", x.demand(0, season, 1000), Check.INVALID);
            Check.due("999", x.demand(0, season, 999), 0);
            Check.due("-1", x.demand(0, season, -1), Check.INVALID);
            Check.due("it is 999", x.goodOf(0, 2 + season), 999);
            Check.due("0", x.demand(0, season, 0), 999);
            Check.due("it is 0", x.goodOf(0, 2 + season), 0);
            x.demand(0, season, 1 + season);
        }
        for (int season = 0; season < 4; season++) {
            Check.due("each is its own", x.goodOf(0, 2 + season), 1 + season);
            Check.due("that of the other good", x.goodOf(1, 2 + season), 0);
        }
        Check.due("season 4", x.demand(0, 4, 1), Check.INVALID);
        Check.due("season -1", x.demand(0, -1, 1), Check.INVALID);
    }

    @Sentence("A good can be in one slot")
    static void aGoodIsInOneSlot() {
        PickSlots x = Made.placed(1, 1, 0);
        Check.due("into a second one", x.place(0, 59), Check.IMPOSSIBLE);
        Check.due("into the same one", x.place(0, 0), Check.IMPOSSIBLE);
        Check.due("the second one has none", x.slotOf(59, 0), Check.MISSING);
        x.move(0, 59);
        Check.due("the one that it left has none", x.slotOf(0, 0), Check.MISSING);
        Check.due("goods in slots", x.count(1), 1);
        x.take(0);
        Check.due("it can be in none", x.goodOf(0, 6), Check.MISSING);
        Check.due("and in one again", x.place(0, 0), 7);
    }

    @Sentence("a slot has at most one good")
    static void aSlotHasOneGood() {
        PickSlots x = Made.light(3);
        x.place(0, 0);
        x.place(1, 59);
        Check.due("a second one into slot 0", x.place(2, 0), Check.IMPOSSIBLE);
        Check.due("a second one into slot 59", x.place(2, 59), Check.IMPOSSIBLE);
        Check.due("moved into slot 0", x.move(1, 0), Check.IMPOSSIBLE);
        Check.due("still good 0", x.slotOf(0, 0), 0);
        Check.due("still good 1", x.slotOf(59, 0), 1);
        x.take(0);
        Check.due("a slot that is free again", x.place(2, 0), 7);
        Check.due("has the other one", x.slotOf(0, 0), 2);
    }

    @Sentence("it has units of it there")
    static void unitsAreOnlyInSlots() {
        PickSlots x = Made.placed(1, 10, 1);
        x.deliver(0, 15);
        Check.due("none at first", x.goodOf(0, 7), 0);
        x.refill(0);
        Check.due("there", x.goodOf(0, 7), 10);
        x.take(0);
        Check.due("none without a slot", x.goodOf(0, 7), 0);
        Check.due("nor of all goods", x.count(5), 0);
    }

    // ---- Weeks

    @Sentence("There are weeks, 0 at first")
    static void week0AtFirst() {
        PickSlots x = new PickSlots();
        Check.due("week", x.count(2), 0);
        Check.due("the next one", x.endWeek(), 1);
        Check.due("week", x.count(2), 1);
    }

    @Sentence("week n belongs to the season (n / 13) mod 4.")
    static void seasonsBeginAnewBehindTheFourth() {
        int[][] weeks = {{0, 0}, {1, 0}, {12, 0}, {13, 1}, {25, 1}, {26, 2}, {38, 2}, {39, 3}, {51, 3},
            {52, 0}, {64, 0}, {65, 1}, {103, 3}, {104, 0}, {987, 3}, {988, 0}, {1000, 0}};
        PickSlots x = new PickSlots();
        int week = 0;
        for (int[] w : weeks) {
            Made.endWeeks(x, w[0] - week);
            week = w[0];
            Check.due("week", x.count(2), week);
            Check.due("season of week " + week, x.count(3), w[1]);
        }
    }

    @Sentence("The picks of a good in the present week are counted "
            + "(0 at first; a pick counts 1, whatever its units).")
    static void aPickCountsOne() {
        PickSlots x = Made.placed(1, 200, 1);
        x.deliver(0, 5000);
        Check.due("at first", x.goodOf(0, 9), 0);
        x.pick(0, 200);
        Check.due("a pick of 200 units", x.goodOf(0, 9), 1);
        x.pick(0, 1);
        Check.due("and one of 1", x.goodOf(0, 9), 2);
        x.pick(0, 201);
        Check.due("a refused one does not count", x.goodOf(0, 9), 2);
        x.refill(0);
        Check.due("nor does a refill", x.goodOf(0, 9), 2);
        x.take(0);
        Check.due("they stay when it is taken", x.goodOf(0, 9), 2);
        x.good(1, 1);
        x.deliver(1, 1);
        x.place(1, 1);
        Check.due("those of another good at first", x.goodOf(1, 9), 0);
        x.pick(1, 1);
        Check.due("are its own", x.goodOf(1, 9), 1);
        Check.due("and the first one's, too", x.goodOf(0, 9), 2);
        Check.due("picks of all", x.account(7), 3);
    }

    /** Picks a unit of good 0 so many times, 12 by a play. */
    private static void pickOften(PickSlots x, int times) {
        Check.retype(x, "p0,1;".repeat(12));
        for (int n = 0; n < times / 12; n++) {
            Check.due("play of picks", x.play(), 12);
        }
        for (int n = 0; n < times % 12; n++) {
            Check.holds("pick", x.pick(0, 1) > 0);
        }
        Check.due("picks", x.goodOf(0, 9), times);
    }

    @Sentence("for each good the demand of the season of this week becomes "
            + "(3 * (the demand) + (the picks)) / 4, at most 999")
    static void forecastsAreRoundedDownAndAtMost999() {
        int[][] cases = { // demand, picks, demand then
            {0, 0, 0}, {0, 1, 0}, {0, 3, 0}, {0, 4, 1}, {1, 0, 0}, {1, 1, 1}, {1, 4, 1}, {1, 5, 2}, {2, 0, 1},
            {3, 0, 2}, {4, 0, 3}, {5, 0, 3}, {999, 0, 749}, {999, 998, 998}, {999, 999, 999}, {999, 1002, 999},
            {999, 1003, 999}, {999, 1007, 999}, {998, 1001, 998}, {998, 1002, 999}, {998, 1006, 999}};
        for (int[] c : cases) {
            PickSlots x = Made.placed(1, 200, 1);
            x.deliver(0, 5000);
            x.demand(0, 0, c[0]);
            pickOften(x, c[1]);
            x.endWeek();
            Check.due("demand " + c[0] + " behind " + c[1] + " picks", x.goodOf(0, 2), c[2]);
        }
    }

    @Sentence("for each good the demand of the season of this week becomes")
    static void forecastsOfTheFirstAndTheLastGood() {
        PickSlots x = Made.light(20);
        x.place(0, 1);
        for (int good = 0; good < 20; good++) {
            x.demand(good, 0, 100);
        }
        x.endWeek();
        Check.due("the first, in a slot", x.goodOf(0, 2), 75);
        for (int good = 1; good < 20; good++) {
            Check.due("good " + good + ", in none", x.goodOf(good, 2), 75);
        }
    }

    @Sentence("the demand of the season of this week becomes")
    static void theWeekThatEndsTellsTheSeason() {
        int[][] ends = {{12, 0}, {13, 1}, {25, 1}, {26, 2}, {51, 3}, {52, 0}};
        for (int[] end : ends) {
            PickSlots x = Made.light(1);
            Made.endWeeks(x, end[0]);
            for (int season = 0; season < 4; season++) {
                x.demand(0, season, 100);
            }
            x.endWeek();
            for (int season = 0; season < 4; season++) {
                Check.due("the end of week " + end[0] + ", season " + season,
                        x.goodOf(0, 2 + season), season == end[1] ? 75 : 100);
            }
        }
    }

    @Sentence("and the picks are 0 again; then it is the next week.")
    static void picksAre0Again() {
        PickSlots x = Made.light(20);
        for (int good = 0; good < 20; good += 19) {
            x.deliver(good, 100);
            x.place(good, 1 + good);
            x.pick(good, 5);
            x.pick(good, 5);
        }
        Check.due("endWeek", x.endWeek(), 1);
        Check.due("picks of the first", x.goodOf(0, 9), 0);
        Check.due("picks of the last", x.goodOf(19, 9), 0);
        Check.due("units picked so far stay", x.goodOf(0, 10), 10);
        Check.due("picks so far stay", x.account(7), 4);
        x.pick(0, 1);
        Check.due("counted anew", x.goodOf(0, 9), 1);
    }

    @Sentence("The weekly walk of a season is the sum over all goods that are in slots: "
            + "the demand in this season times the walk to the slot.")
    static void weeklyWalkOfNoneOneAndAll() {
        PickSlots x = Made.light(20);
        Check.due("no goods in slots", x.weekly(1), 0);
        for (int good = 0; good < 20; good++) {
            x.demand(good, 1, 999);
        }
        Check.due("demands without slots", x.weekly(1), 0);
        x.place(19, 59);
        Check.due("only the last good", x.weekly(1), 999 * 49);
        x.take(19);
        Check.due("taken out again", x.weekly(1), 0);
        int walks = 0;
        for (int good = 0; good < 20; good++) {
            walks += x.place(good, 59 - good);
        }
        Check.due("all goods", x.weekly(1), 999 * walks);
        Check.due("a season without demands", x.weekly(2), 0);
    }

    // ---- Promises 1 to 9

    @Sentence("Creates a warehouse without goods, in week 0.")
    static void promise1IsEmpty() {
        PickSlots x = new PickSlots();
        int[] counts = {0, 0, 0, 0, 13, 0, 0, 0, 0, 0};
        for (int what = 0; what < counts.length; what++) {
            Check.due("count " + what, x.count(what), counts[what]);
        }
        for (int what = 0; what <= 7; what++) {
            Check.due("account " + what, x.account(what), what == 4 || what == 5 ? Check.RAISE : 0);
        }
        for (int slot = 0; slot < 60; slot++) {
            Check.due("slot " + slot, x.slotOf(slot, 0), Check.MISSING);
        }
        Check.due("no good 0", x.goodOf(0, 0), Check.INVALID);
        Check.due("the first good", x.good(1, 1), 0);
    }

    @Sentence("Adds a good, which is in no slot.")
    static void promise2InNoSlot() {
        PickSlots x = new PickSlots();
        for (int good = 0; good < 20; good++) {
            x.good(1, 1);
            Check.due("slot of good " + good, x.goodOf(good, 6), Check.MISSING);
        }
        Check.due("goods in slots", x.count(1), 0);
        Check.due("slot 0 has none", x.slotOf(0, 0), Check.MISSING);
        Check.due("it can be placed", x.place(0, 0), 7);
    }

    @Sentence("Returns its number; INVALID_ARGUMENT if an argument is out of range; LIMIT_REACHED if there are 20.")
    static void promise2Answers() {
        PickSlots x = new PickSlots();
        int[][] wrong = {{0, 1}, {41, 1}, {1, 0}, {1, 201}, {0, 0}, {41, 201}, {-1, 1}, {1, -1},
            {MIN, 1}, {MAX, 1}, {1, MIN}, {1, MAX}};
        for (int[] w : wrong) {
            Check.due("good " + w[0] + " " + w[1], x.good(w[0], w[1]), Check.INVALID);
        }
        int[][] right = {{1, 1}, {40, 200}, {1, 200}, {40, 1}};
        for (int n = 0; n < 20; n++) {
            Check.due("good", x.good(right[n % 4][0], right[n % 4][1]), n);
        }
        Check.due("one more", x.good(1, 1), Check.LIMIT);
        x.undo();
        Check.due("behind an undo", x.good(1, 1), 19);
        Check.due("one more again", x.good(40, 200), Check.LIMIT);
    }

    @Sentence("Sets the demand of a good in a season.")
    static void promise3Answers() {
        PickSlots x = Made.light(2);
        int[][] wrong = {{-1, 0, 0}, {2, 0, 0}, {20, 0, 0}, {0, -1, 0}, {0, 4, 0}, {0, 0, -1}, {0, 0, 1000},
            {MIN, 0, 0}, {MAX, 0, 0}, {0, MIN, 0}, {0, MAX, 0}, {0, 0, MIN}, {0, 0, MAX}};
        for (int[] w : wrong) {
            Check.due("demand " + w[0] + " " + w[1] + " " + w[2], x.demand(w[0], w[1], w[2]), Check.INVALID);
        }
        Check.due("the first good and season", x.demand(0, 0, 999), 0);
        Check.due("the last good and season", x.demand(1, 3, 999), 0);
        Check.due("what it was", x.demand(0, 0, 0), 999);
        Check.due("what it was then", x.demand(0, 0, 0), 0);
        Check.due("what that was", x.demand(1, 3, 1), 999);
    }

    @Sentence("Delivers units of a good to the bulk store.")
    static void promise4Ranges() {
        PickSlots x = Made.light(2);
        int[][] wrong = {{-1, 1}, {2, 1}, {20, 1}, {0, 0}, {0, -1}, {0, 5001}, {MIN, 1}, {MAX, 1}, {0, MIN}, {0, MAX}};
        for (int[] w : wrong) {
            Check.due("deliver " + w[0] + " " + w[1], x.deliver(w[0], w[1]), Check.INVALID);
        }
        Check.due("1", x.deliver(0, 1), 1);
        Check.due("5000", x.deliver(0, 5000), 5001);
        Check.due("of the other good", x.deliver(1, 5000), 5000);
    }

    @Sentence("LIMIT_REACHED if they would be more than 100000.")
    static void promise4Limit() {
        PickSlots x = Made.light(3);
        Made.fillStore(x, 1);
        Check.due("it holds exactly 100000", x.goodOf(1, 8), 100000);
        Check.due("1 more", x.deliver(1, 1), Check.LIMIT);
        Check.due("5000 more", x.deliver(1, 5000), Check.LIMIT);
        Check.due("the limit is each good's own", x.deliver(0, 5000), 5000);
        x.place(1, 1);
        x.refill(1);
        Check.due("units in slots do not count", x.deliver(1, 200), 100000);
        Check.due("1 more again", x.deliver(1, 1), Check.LIMIT);
        x.pick(1, 200);
        x.refill(1);
        Check.due("201 would be 100001", x.deliver(1, 201), Check.LIMIT);
        Check.due("199 are 99999", x.deliver(1, 199), 99999);
        Check.due("2 would be 100001", x.deliver(1, 2), Check.LIMIT);
        Check.due("1 is 100000", x.deliver(1, 1), 100000);
    }

    @Sentence("Places a good into a slot, without units.")
    static void promise5WithoutUnits() {
        PickSlots x = Made.light(1);
        x.deliver(0, 500);
        x.place(0, 1);
        Check.due("without units", x.goodOf(0, 7), 0);
        Check.due("all in the store", x.goodOf(0, 8), 500);
        Check.due("a good without units", x.count(7), 1);
        x.refill(0);
        x.take(0);
        x.place(0, 2);
        Check.due("without units once more", x.goodOf(0, 7), 0);
        Check.due("all in the store once more", x.goodOf(0, 8), 500);
    }

    @Sentence("Returns the walk to it; INVALID_ARGUMENT if an argument is out of range; NOT_POSSIBLE if the good is "
            + "in a slot, the slot has a good, or the good is too heavy for it.")
    static void promise5Answers() {
        PickSlots x = new PickSlots();
        x.good(5, 1);
        x.good(6, 1);
        int[][] wrong = {{-1, 0}, {2, 0}, {20, 0}, {0, -1}, {0, 60}, {MIN, 0}, {MAX, 0}, {0, MIN}, {0, MAX}};
        for (int[] w : wrong) {
            Check.due("place " + w[0] + " " + w[1], x.place(w[0], w[1]), Check.INVALID);
        }
        Check.due("too heavy by one", x.place(1, 5), Check.IMPOSSIBLE);
        Check.due("the shortest walk", x.place(0, 1), 4);
        Check.due("the slot has a good", x.place(1, 1), Check.IMPOSSIBLE);
        Check.due("the good is in a slot", x.place(0, 2), Check.IMPOSSIBLE);
        x.take(0);
        Check.due("the longest walk", x.place(0, 59), 49);
        Check.due("the last good", x.place(1, 0), 7);
    }

    @Sentence("Takes a good out of its slot; its units go to the bulk store, whatever its limit is.")
    static void promise6OverTheLimit() {
        PickSlots x = Made.light(1);
        Made.fillStore(x, 0);
        x.place(0, 1);
        x.refill(0);
        Check.due("full again", x.deliver(0, 200), 100000);
        Check.due("take", x.take(0), 200);
        Check.due("more than the limit", x.goodOf(0, 8), 100200);
        Check.due("of all goods", x.count(6), 100200);
        Check.due("no more is delivered", x.deliver(0, 1), Check.LIMIT);
        x.place(0, 1);
        Check.due("they can be brought", x.refill(0), 200);
        Check.due("the limit again", x.goodOf(0, 8), 100000);
        Check.due("still no more", x.deliver(0, 1), Check.LIMIT);
    }

    @Sentence("Returns these units; INVALID_ARGUMENT; NOT_POSSIBLE if it is in no slot.")
    static void promise6Answers() {
        PickSlots x = Made.light(2);
        for (int good : new int[] {-1, 2, 20, MIN, MAX}) {
            Check.due("take " + good, x.take(good), Check.INVALID);
        }
        Check.due("in no slot yet", x.take(1), Check.IMPOSSIBLE);
        x.place(1, 0);
        Check.due("no units", x.take(1), 0);
        Check.due("in no slot any more", x.take(1), Check.IMPOSSIBLE);
        Check.due("the slot is free", x.slotOf(0, 0), Check.MISSING);
        x.place(1, 0);
        x.deliver(1, 1);
        x.refill(1);
        Check.due("a unit", x.take(1), 1);
    }

    @Sentence("Returns the number; INVALID_ARGUMENT if an argument is out of range; NOT_FOUND for 6 if it is in no slot.")
    static void promise7Answers() {
        PickSlots x = Made.light(2);
        for (int good : new int[] {-1, 2, 20, MIN, MAX}) {
            Check.due("goodOf " + good, x.goodOf(good, 0), Check.INVALID);
        }
        for (int what : new int[] {-1, 12, MIN, MAX}) {
            Check.due("goodOf what " + what, x.goodOf(0, what), Check.INVALID);
        }
        int[] told = {1, 200, 0, 0, 0, 0, Check.MISSING, 0, 0, 0, 0, 5};
        for (int what = 0; what < told.length; what++) {
            Check.due("goodOf 1 " + what, x.goodOf(1, what), told[what]);
        }
        x.place(1, 0);
        Check.due("slot 0 is found", x.goodOf(1, 6), 0);
        x.move(1, 59);
        Check.due("slot 59 is found", x.goodOf(1, 6), 59);
        x.take(1);
        Check.due("none is", x.goodOf(1, 6), Check.MISSING);
    }

    @Sentence("11: the greatest height at which it may be")
    static void promise7GreatestHeight() {
        int[] weights = {1, 5, 6, 8, 9, 15, 16, 20, 21, 30, 31, 40};
        int[] heights = {5, 5, 4, 4, 3, 3, 2, 2, 1, 1, 0, 0};
        PickSlots x = new PickSlots();
        for (int good = 0; good < weights.length; good++) {
            x.good(weights[good], 1);
            Check.due("weight " + weights[good], x.goodOf(good, 11), heights[good]);
            Check.holds("it may be there", x.place(good, 6 * (good % 10) + heights[good]) > 0);
            x.take(good);
        }
        for (int good = 0; good < weights.length; good++) {
            Check.due("weight " + weights[good] + " among others", x.goodOf(good, 11), heights[good]);
        }
    }

    @Sentence("Returns the number; INVALID_ARGUMENT if an argument is out of range; NOT_FOUND for 0 if it has none.")
    static void promise8Answers() {
        PickSlots x = Made.light(1);
        for (int slot : new int[] {-1, 60, MIN, MAX}) {
            for (int what = 0; what < 3; what++) {
                Check.due("slotOf " + slot + " " + what, x.slotOf(slot, what), Check.INVALID);
            }
        }
        for (int what : new int[] {-1, 3, MIN, MAX}) {
            Check.due("slotOf what " + what, x.slotOf(59, what), Check.INVALID);
        }
        Check.due("it has none", x.slotOf(59, 0), Check.MISSING);
        x.place(0, 59);
        Check.due("it has good 0", x.slotOf(59, 0), 0);
        Check.due("its walk", x.slotOf(59, 1), 49);
        Check.due("how heavy", x.slotOf(59, 2), 5);
        x.take(0);
        Check.due("it has none again", x.slotOf(59, 0), Check.MISSING);
    }

    @Sentence("Finds the slot without a good with the shortest walk, of several the lowest, at which a good may be.")
    static void promise9LowestOfSeveral() {
        PickSlots x = Made.light(12);
        int[] nearest = {1, 2, 3, 0, 7, 8, 4, 9, 6, 13, 14, 5}; // 13 paces: slots 5 and 10
        for (int good = 0; good < nearest.length; good++) {
            Check.due("nearest of good " + good, x.nearest(good), nearest[good]);
            x.place(good, nearest[good]);
        }
        Check.due("for one that is in a slot", x.nearest(11), 10);
        x.take(0);
        Check.due("the lowest of all, free again", x.nearest(11), 1);
    }

    @Sentence("Finds the slot without a good with the shortest walk, of several the lowest, at which a good may be.")
    static void promise9AsHeavyAsMayBe() {
        int[] weights = {40, 31, 30, 21, 20, 16, 15, 1};
        int[] nearest = {0, 0, 1, 1, 1, 1, 1, 1};
        int[] nearestThen = {0, 0, 0, 0, 2, 2, 2, 2};
        for (int n = 0; n < weights.length; n++) {
            PickSlots x = new PickSlots();
            x.good(weights[n], 1);
            x.good(1, 1);
            Check.due("weight " + weights[n], x.nearest(0), nearest[n]);
            x.place(1, 1);
            Check.due("weight " + weights[n] + " without slot 1", x.nearest(0), nearestThen[n]);
        }
    }

    @Sentence("Returns the slot; INVALID_ARGUMENT; NOT_FOUND if there is none.")
    static void promise9Answers() {
        PickSlots x = new PickSlots();
        Check.due("no goods", x.nearest(0), Check.INVALID);
        for (int n = 0; n < 10; n++) {
            x.good(31, 1);
            x.place(n, 6 * n);
        }
        for (int good : new int[] {-1, 10, 20, MIN, MAX}) {
            Check.due("nearest " + good, x.nearest(good), Check.INVALID);
        }
        Check.due("its own slot has a good", x.nearest(0), Check.MISSING);
        x.good(30, 1);
        Check.due("height 1 for 30 kilograms", x.nearest(10), 1);
        x.good(31, 1);
        Check.due("none for 31 kilograms", x.nearest(11), Check.MISSING);
        x.take(9);
        Check.due("the last slot of height 0", x.nearest(11), 54);
        x.place(9, 54);
        x.take(0);
        Check.due("slot 0", x.nearest(11), 0);
    }
}
