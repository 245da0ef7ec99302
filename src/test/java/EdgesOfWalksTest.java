/** Boundary cases of the promises 18 to 21 and 23. */
public final class EdgesOfWalksTest {
    private static final int RAISE = Check.RAISE;
    private static final int MIN = Integer.MIN_VALUE;
    private static final int MAX = Integer.MAX_VALUE;

    public static void main(String[] args) {
        Sentences.testAll(EdgesOfWalksTest.class);
    }

    // ---- Promises 18 and 19

    @Sentence("Returns the walk; INVALID_ARGUMENT if season is out of range.")
    static void promise18Answers() {
        PickSlots x = Made.placed(1, 1, 59);
        for (int season : new int[] {-1, 4, MIN, MAX}) {
            Check.due("weekly " + season, x.weekly(season), Check.INVALID);
        }
        for (int season = 0; season < 4; season++) {
            Check.due("without a demand", x.weekly(season), 0);
            x.demand(0, season, 999);
            Check.due("with the greatest", x.weekly(season), 999 * 49);
        }
    }

    @Sentence("Returns the weekly walk of a season, by the slots as they are.")
    static void promise18SlotsAsTheyAre() {
        PickSlots x = Made.placed(1, 1, 59);
        x.demand(0, 0, 10);
        x.demand(0, 3, 20);
        x.move(0, 1);
        Check.due("behind a move", x.weekly(0), 40);
        Check.due("of another season, too", x.weekly(3), 80);
        x.undo();
        Check.due("behind an undo", x.weekly(0), 490);
        Made.endWeeks(x, 13);
        Check.due("season 3 in week 13", x.weekly(3), 980);
        x.take(0);
        Check.due("in no slot", x.weekly(3), 0);
    }

    @Sentence("Returns the walk; INVALID_ARGUMENT if season is out of range.")
    static void promise19Answers() {
        PickSlots x = Made.light(2);
        for (int season : new int[] {-1, 4, MIN, MAX}) {
            Check.due("atBest " + season, x.atBest(season), Check.INVALID);
        }
        for (int season = 0; season < 4; season++) {
            x.demand(0, season, 999 - season);
            x.demand(1, season, season);
            Check.due("none in slots", x.atBest(season), 0);
        }
        x.place(0, 59);
        for (int season = 0; season < 4; season++) {
            Check.due("one in a slot", x.atBest(season), (999 - season) * 49);
        }
        x.place(1, 1);
        for (int season = 0; season < 4; season++) {
            Check.due("two in slots", x.atBest(season), (999 - season) * 4 + season * 49);
        }
    }

    @Sentence("Tells how short the weekly walk of a season could be if the goods that are in slots "
            + "had the slots that have goods in the best way")
    static void promise19OfNoneOneAndAllGoods() {
        PickSlots x = new PickSlots();
        Check.due("no goods", x.atBest(0), 0);
        int least = 0;
        for (int good = 0; good < 20; good++) {
            x.good(1, 1);
            x.demand(good, 0, 10 + good);
            x.place(good, 19 - good);
        }
        int[] walks = {4, 4, 6, 7, 8, 8, 9, 10, 11, 12, 12, 13, 13, 14, 15, 16, 17, 17, 19, 21}; // of slots 0 to 19
        for (int n = 0; n < 20; n++) {
            least += walks[n] * (29 - n);
        }
        Check.due("all goods", x.atBest(0), least);
        x.take(16);
        x.take(0);
        Check.due("neither the goods that are in none, nor their slots", x.atBest(0), leastWithoutSlots3And19());
        for (int good = 0; good < 20; good++) {
            x.demand(good, 0, 7);
        }
        Check.due("equal demands: as it is", x.atBest(0), x.weekly(0));
        Check.due("equal demands: any way is the best", x.atBest(0), 7 * (236 - 6 - 16));
    }

    private static int leastWithoutSlots3And19() {
        int[] walks = {4, 4, 7, 8, 8, 9, 10, 11, 12, 12, 13, 13, 14, 15, 17, 17, 19, 21};
        int[] demands = {29, 28, 27, 25, 24, 23, 22, 21, 20, 19, 18, 17, 16, 15, 14, 13, 12, 11};
        int least = 0;
        for (int n = 0; n < walks.length; n++) {
            least += walks[n] * demands[n];
        }
        return least;
    }

    @Sentence("in the best way, whatever their weights.")
    static void promise19WhateverTheWeights() {
        PickSlots x = new PickSlots();
        x.good(40, 1);
        x.good(1, 1);
        x.demand(0, 0, 999);
        x.demand(1, 0, 1);
        x.place(0, 54);
        x.place(1, 5);
        Check.due("40 kilograms at height 5", x.atBest(0), 999 * 13 + 43);
        Check.due("it may not be there", x.worth(0, 5, 0), Check.IMPOSSIBLE);
    }

    // ---- Promise 20

    @Sentence("Returns the number; INVALID_ARGUMENT if what is out of range.")
    static void promise20Answers() {
        PickSlots x = new PickSlots();
        for (int what : new int[] {-1, 8, 20, MIN, MAX}) {
            Check.due("account " + what, x.account(what), Check.INVALID);
        }
        Check.due("the first", x.account(0), 0);
        Check.due("the last", x.account(7), 0);
    }

    @Sentence("0: walked by picks; 1: by refills; 2: by moves and exchanges; 3: trips of refills")
    static void promise20RefillsByPicksAreRefills() {
        PickSlots x = Made.placed(1, 60, 59);
        x.deliver(0, 61);
        x.pick(0, 60);
        Check.due("walked by picks", x.account(0), 49);
        Check.due("walked by refills", x.account(1), 79);
        Check.due("trips", x.account(3), 1);
        Check.due("walked by moves", x.account(2), 0);
        x.refill(0);
        Check.due("walked by refills of one unit", x.account(1), 158);
        Check.due("trips of one unit", x.account(3), 2);
        x.pick(0, 1);
        Check.due("a pick without a refill", x.account(1), 158);
        Check.due("walked by picks then", x.account(0), 98);
        Check.due("trips as before", x.account(3), 2);
    }

    @Sentence("Returns an account.")
    static void promise20AccountsAreSums() {
        PickSlots x = Made.light(2);
        x.deliver(0, 5000);
        x.demand(0, 0, 10);
        x.place(0, 59);
        x.place(1, 1);
        for (int round = 1; round <= 3; round++) {
            x.pick(0, 200);
            x.move(0, 58);
            x.exchange(0, 1);
            x.take(0);
            x.take(1);
            x.place(0, 59);
            x.place(1, 1);
            int[] sums = {49 * round, 4 * 79 * round, (15 + 84) * round, 4 * round, RAISE + 450 * round,
                RAISE + 490 + 450 * round, 2 * round, round};
            for (int change = 0; change < 6; change++) { // more than the history keeps
                x.set(1, 60);
                for (int what = 0; what < sums.length; what++) {
                    Check.due("account " + what + " of round " + round, x.account(what), sums[what]);
                }
            }
        }
    }

    @Sentence("4: 100000000 more than what moves and exchanges saved")
    static void promise20SavedAbove0At0AndBelow() {
        PickSlots x = Made.placed(1, 1, 59);
        Check.due("nothing", x.account(4), RAISE);
        x.demand(0, 0, 1);
        x.move(0, 1);
        Check.due("above 0", x.account(4), RAISE + 45);
        x.move(0, 59);
        Check.due("0 again", x.account(4), RAISE);
        x.demand(0, 0, 0);
        x.move(0, 1);
        Check.due("nothing is saved without a demand", x.account(4), RAISE);
        x.demand(0, 0, 999);
        Check.due("nor by a demand", x.account(4), RAISE);
        x.move(0, 59);
        Check.due("below 0", x.account(4), RAISE - 999 * 45);
        x.take(0);
        x.place(0, 1);
        Check.due("nor by taking and placing", x.account(4), RAISE - 999 * 45);
        x.move(0, 59);
        Check.due("farther below 0", x.account(4), RAISE - 2 * 999 * 45);
    }

    @Sentence("6: moves and exchanges so far; 7: picks so far")
    static void promise20Counts() {
        PickSlots x = Made.light(2);
        x.deliver(0, 500);
        x.place(0, 1);
        x.place(1, 59);
        x.move(1, 1);
        x.pick(0, 201);
        Check.due("refused ones do not count", x.account(6) + x.account(7), 0);
        x.exchange(0, 1);
        Check.due("an exchange is one", x.account(6), 1);
        x.move(0, 58);
        Check.due("a move is one", x.account(6), 2);
        x.demand(0, 0, 999);
        Check.due("improve", x.improve(1), 1);
        Check.due("what it does is one", x.account(6), 3);
        x.worth(0, 40, 0);
        x.best(0);
        Check.due("telling counts none", x.account(6), 3);
        x.pick(0, 200);
        Check.due("a pick of 200 units is one", x.account(7), 1);
        x.endWeek();
        Check.due("the end of a week changes none", x.account(7), 1);
    }

    // ---- Promise 21

    @Sentence("Returns the number; INVALID_ARGUMENT if what is out of range.")
    static void promise21Answers() {
        PickSlots x = new PickSlots();
        for (int what : new int[] {-1, 10, 11, 19, 23, MIN, MAX}) {
            Check.due("count " + what, x.count(what), Check.INVALID);
        }
        Check.due("0", x.count(0), 0);
        Check.due("9", x.count(9), 0);
        Check.due("20", x.count(20), 30);
        Check.due("22", x.count(22), 1);
    }

    @Sentence("0: goods; 1: those in slots")
    static void promise21NoneAndAllGoods() {
        PickSlots x = new PickSlots();
        for (int good = 0; good < 20; good++) {
            Check.due("goods", x.count(0), good);
            Check.due("those in slots", x.count(1), good);
            x.good(1, 1);
            Check.due("a new one is in none", x.count(1), good);
            x.place(good, 3 * good);
        }
        Check.due("all goods", x.count(0), 20);
        Check.due("all in slots", x.count(1), 20);
        x.deliver(0, 1);
        x.refill(0);
        Check.due("with units or without", x.count(1), 20);
        x.take(0);
        x.take(19);
        Check.due("but the first and the last", x.count(1), 18);
    }

    @Sentence("2: the week; 3: the season")
    static void promise21WeekAndSeason() {
        PickSlots x = new PickSlots();
        int[][] weeks = {{0, 0}, {12, 0}, {13, 1}, {51, 3}, {52, 0}, {999, 0}, {1000, 0}};
        int week = 0;
        for (int[] w : weeks) {
            Made.endWeeks(x, w[0] - week);
            week = w[0];
            Check.due("the week", x.count(2), week);
            Check.due("the season of week " + week, x.count(3), w[1]);
        }
        x.undo();
        Check.due("the week behind an undo", x.count(2), 999);
    }

    @Sentence("4: the weeks from the present one to the last one of its season")
    static void promise21WeeksLeft() {
        PickSlots x = new PickSlots();
        int[][] weeks = {{0, 13}, {1, 12}, {11, 2}, {12, 1}, {13, 13}, {14, 12}, {25, 1}, {26, 13}, {38, 1},
            {39, 13}, {51, 1}, {52, 13}, {987, 1}, {988, 13}, {999, 2}, {1000, 1}};
        int week = 0;
        for (int[] w : weeks) {
            Made.endWeeks(x, w[0] - week);
            week = w[0];
            Check.due("in week " + week, x.count(4), w[1]);
        }
    }

    @Sentence("5: units in slots; 6: units in the bulk store; 7: goods in slots without units")
    static void promise21Units() {
        PickSlots x = Made.light(20);
        for (int good = 0; good < 20; good++) {
            x.deliver(good, 200 + good);
            x.place(good, good);
        }
        Check.due("all without units", x.count(7), 20);
        Check.due("none in slots", x.count(5), 0);
        Check.due("all in the store", x.count(6), 4190);
        for (int good = 0; good < 20; good++) {
            x.refill(good);
        }
        Check.due("none without units", x.count(7), 0);
        Check.due("the slots are full", x.count(5), 4000);
        Check.due("what is left", x.count(6), 190);
        x.pick(0, 199);
        Check.due("a good with one unit has units", x.count(7), 0);
        x.pick(0, 1);
        Check.due("the first without units", x.count(7), 1);
        x.pick(19, 200);
        Check.due("the last without units", x.count(7), 2);
        x.take(0);
        Check.due("one in no slot does not count", x.count(7), 1);
        Check.due("units then", x.count(5), 3600);
    }

    @Sentence("6: units in the bulk store")
    static void promise21FullStores() {
        PickSlots x = Made.light(20);
        for (int good = 0; good < 20; good++) {
            Made.fillStore(x, good);
        }
        Check.due("20 full stores", x.count(6), 2000000);
    }

    @Sentence("8: states in the history; 9: the length of the text")
    static void promise21StatesAndLength() {
        PickSlots x = new PickSlots();
        int[] states = {0, 1, 2, 3, 4, 4, 4};
        for (int n = 0; n < states.length; n++) {
            Check.due("states behind " + n + " changes", x.count(8), states[n]);
            x.endWeek();
        }
        for (int length = 0; length < 60; length++) {
            Check.due("length", x.count(9), length);
            x.type('w');
        }
        Check.due("the greatest length", x.count(9), 60);
        x.type('w');
        Check.due("behind a refused one", x.count(9), 60);
        x.clearText();
        Check.due("empty", x.count(9), 0);
    }

    @Sentence("20 to 22: the settings 0 to 2")
    static void promise21Settings() {
        PickSlots x = new PickSlots();
        x.set(0, 200);
        x.set(1, 500);
        x.set(2, 0);
        Check.due("20", x.count(20), 200);
        Check.due("21", x.count(21), 500);
        Check.due("22", x.count(22), 0);
    }

    // ---- Promise 23

    @Sentence("Returns the number of states that are left in the history; NOT_POSSIBLE if it is empty.")
    static void promise23Answers() {
        PickSlots x = new PickSlots();
        Check.due("empty at first", x.undo(), Check.IMPOSSIBLE);
        for (int changes = 1; changes <= 6; changes++) {
            for (int n = 0; n < changes; n++) {
                x.good(1, 1);
            }
            for (int left = Math.min(changes, 4) - 1; left >= 0; left--) {
                Check.due("states left of " + changes, x.undo(), left);
                Check.due("as counted", x.count(8), left);
            }
            Check.due("empty behind " + changes, x.undo(), Check.IMPOSSIBLE);
            Check.due("still empty", x.count(8), 0);
        }
        Check.due("one good of 5 and two of 6 can't be undone", x.count(0), 1 + 2);
    }

    @Sentence("Restores the latest state of the history, which is removed from it.")
    static void promise23LatestFirst() {
        PickSlots x = new PickSlots();
        for (int value = 1; value <= 6; value++) {
            x.set(0, value);
        }
        Check.due("undo", x.undo(), 3);
        Check.due("the latest", x.count(20), 5);
        x.set(0, 99);
        Check.due("one is recorded anew", x.count(8), 4);
        int[] values = {5, 4, 3, 2};
        for (int n = 0; n < 4; n++) {
            Check.due("undo", x.undo(), 3 - n);
            Check.due("undo " + n, x.count(20), values[n]);
        }
        Check.due("none is left", x.undo(), Check.IMPOSSIBLE);
        Check.due("2 stays", x.count(20), 2);
    }
}
