/**
 * A warehouse whose picking slots are set anew.
 *
 * A call that may change something is tried on a copy of the present state. Only if it returns no
 * error does the copy become the present state, and the state before it goes into the history.
 */
public final class PickSlots {
    public static final int INVALID_ARGUMENT = -1;
    public static final int NOT_POSSIBLE = -2;
    public static final int LIMIT_REACHED = -3;
    public static final int NOT_FOUND = -4;

    private static final int NONE = -1;
    private static final int GOODS_LIMIT = 20;
    private static final int SEASONS = 4;
    private static final int HISTORY_LIMIT = 4;
    private static final int TEXT_LIMIT = 60;
    /** Added to the numbers that may be negative, so that they are never taken for errors. */
    private static final int RAISE = 100000000;

    private final Warehouse[] history = new Warehouse[HISTORY_LIMIT];
    private final OrderText text = new OrderText();
    private final SortedRow demands = new SortedRow();
    private final SortedRow walks = new SortedRow();
    private Warehouse now = new Warehouse();
    private Warehouse trial = new Warehouse();
    private int states;
    private int faultPosition;
    private int faultReason;

    public PickSlots() {
        for (int i = 0; i < HISTORY_LIMIT; i++) {
            history[i] = new Warehouse();
        }
    }

    // ---- goods

    public int good(int weight, int capacity) {
        startTrial();
        return endTrial(trial.addGood(weight, capacity));
    }

    public int demand(int good, int season, int picks) {
        startTrial();
        return endTrial(trial.changeDemand(good, season, picks));
    }

    public int deliver(int good, int units) {
        startTrial();
        return endTrial(trial.addToStore(good, units));
    }

    public int place(int good, int slot) {
        startTrial();
        return endTrial(trial.putIntoSlot(good, slot));
    }

    public int take(int good) {
        startTrial();
        return endTrial(trial.takeOutOfSlot(good));
    }

    public int goodOf(int good, int what) {
        return now.numberOfGood(good, what);
    }

    public int slotOf(int slot, int what) {
        return now.numberOfSlot(slot, what);
    }

    public int nearest(int good) {
        return now.nearestFreeSlot(good);
    }

    // ---- picks, refills, weeks

    public int pick(int good, int units) {
        startTrial();
        return endTrial(trial.pickUnits(good, units));
    }

    public int refill(int good) {
        startTrial();
        return endTrial(trial.refillSlot(good));
    }

    public int endWeek() {
        startTrial();
        return endTrial(trial.finishWeek());
    }

    // ---- moves

    public int move(int good, int slot) {
        startTrial();
        return endTrial(trial.moveGood(good, slot));
    }

    public int exchange(int one, int other) {
        startTrial();
        return endTrial(trial.exchangeGoods(one, other));
    }

    public int worth(int good, int slot, int what) {
        return now.numberOfChange(good, slot, what);
    }

    public int best(int what) {
        return now.numberOfBest(what);
    }

    public int improve(int times) {
        startTrial();
        return endTrial(trial.doBest(times));
    }

    // ---- walks

    public int weekly(int season) {
        return isSeason(season) ? now.weeklyWalk(season) : INVALID_ARGUMENT;
    }

    public int atBest(int season) {
        return isSeason(season) ? now.shortestWalk(season, demands, walks) : INVALID_ARGUMENT;
    }

    public int account(int what) {
        return now.numberOfAccount(what);
    }

    public int count(int what) {
        if (what == 8) {
            return states;
        }
        if (what == 9) {
            return text.length;
        }
        return now.numberOfWarehouse(what);
    }

    public int set(int what, int value) {
        startTrial();
        return endTrial(trial.changeSetting(what, value));
    }

    public int undo() {
        if (states < 1) {
            return NOT_POSSIBLE;
        }
        states--;
        Warehouse undone = now;
        now = history[states];
        history[states] = undone;
        return states;
    }

    // ---- texts

    public int type(int character) {
        return text.append(character);
    }

    public int clearText() {
        int before = text.length;
        text.length = 0;
        return before;
    }

    public int fault(int what) {
        if (what != 0 && what != 1) {
            return INVALID_ARGUMENT;
        }
        tryText();
        if (faultReason == 0) {
            return NOT_FOUND;
        }
        return what == 0 ? faultPosition : faultReason;
    }

    public int play() {
        int orders = tryText();
        return endTrial(faultReason == 0 ? orders : NOT_POSSIBLE);
    }

    // ---- how changes are tried, kept and told

    private void startTrial() {
        trial.copyFrom(now);
    }

    private int endTrial(int answer) {
        if (answer >= 0) {
            keepTrial();
        }
        return answer;
    }

    /** The objects change their places only: no call makes a new one. */
    private void keepTrial() {
        if (states >= HISTORY_LIMIT) {
            dropOldestState();
        }
        Warehouse spare = history[states];
        history[states] = now;
        now = trial;
        trial = spare;
        states++;
    }

    private void dropOldestState() {
        Warehouse oldest = history[0];
        for (int i = 1; i < HISTORY_LIMIT; i++) {
            history[i - 1] = history[i];
        }
        history[HISTORY_LIMIT - 1] = oldest;
        states = HISTORY_LIMIT - 1;
    }

    /** Does the orders of the text on the trial up to its fault; returns how many were done. */
    private int tryText() {
        startTrial();
        text.startReading();
        faultReason = 0;
        int orders = 0;
        while (orders < TEXT_LIMIT && !text.isAtEnd()) {
            faultPosition = text.at;
            if (!text.readOrder()) {
                faultReason = 1;
            } else if (!hasGoodsAndSlots(text.kind, text.first, text.second)) {
                faultReason = 2;
            } else if (doOrder(text.kind, text.first, text.second) < 0) {
                faultReason = 3;
            }
            if (faultReason != 0) {
                return orders;
            }
            orders++;
        }
        return orders;
    }

    /** If there are the goods and the slot that an order names. */
    private boolean hasGoodsAndSlots(int kind, int first, int second) {
        switch (kind) {
            case 'w':
                return true;
            case 'm':
                return trial.isGood(first) && Slots.isSlot(second);
            case 'x':
                return trial.isGood(first) && trial.isGood(second);
            default:
                return trial.isGood(first);
        }
    }

    private int doOrder(int kind, int first, int second) {
        switch (kind) {
            case 'p':
                return trial.pickUnits(first, second);
            case 'r':
                return trial.refillSlot(first);
            case 'm':
                return trial.moveGood(first, second);
            case 'x':
                return trial.exchangeGoods(first, second);
            default:
                return trial.finishWeek();
        }
    }

    private static boolean isSeason(int season) {
        return season >= 0 && season < SEASONS;
    }

    private static boolean isIn(int value, int least, int greatest) {
        return value >= least && value <= greatest;
    }

    /** What never changes: where the slots are and what they bear. */
    private static final class Slots {
        private static final int SLOTS = 60;
        private static final int HEIGHTS = 6;
        private static final int[] REACHES = {3, 0, 0, 2, 5, 9};
        private static final int[] HEAVIEST = {40, 30, 20, 15, 8, 5};

        static boolean isSlot(int slot) {
            return slot >= 0 && slot < SLOTS;
        }

        static int walkTo(int slot) {
            if (slot < 0 || slot >= SLOTS) {
                return 0;
            }
            return 4 * (slot / HEIGHTS) + 4 + REACHES[slot % HEIGHTS];
        }

        static int heaviestAt(int slot) {
            return slot >= 0 && slot < SLOTS ? HEAVIEST[slot % HEIGHTS] : 0;
        }

        /** The walk from a slot to another one, without the weight of what is carried. */
        static int wayBetween(int from, int to) {
            if (from < 0 || from >= SLOTS || to < 0 || to >= SLOTS) {
                return 0;
            }
            int columns = Math.abs(from / HEIGHTS - to / HEIGHTS);
            return 4 * columns + REACHES[from % HEIGHTS] + REACHES[to % HEIGHTS];
        }

        /** The slots bear less the higher they are, so the last height that bears it is it. */
        static int greatestHeightFor(int weight) {
            int greatest = 0;
            for (int height = 0; height < HEIGHTS; height++) {
                if (weight <= HEAVIEST[height]) {
                    greatest = height;
                }
            }
            return greatest;
        }
    }

    /** All that an undo restores; its changes answer as the calls do, with errors below 0. */
    private static final class Warehouse {
        private static final int WEEKS_LIMIT = 1000;
        private static final int SEASON_WEEKS = 13;
        private static final int STORE_LIMIT = 100000;
        private static final int DEMAND_LIMIT = 999;
        private static final int UNITS_LIMIT = 200;
        private static final int BULK_DISTANCE = 0;
        private static final int LOAD = 1;
        private static final int REFILLS_BY_PICKS = 2;
        private static final int[] LEAST_SETTINGS = {0, 1, 0};
        private static final int[] GREATEST_SETTINGS = {200, 500, 1};

        private final int[] weights = new int[GOODS_LIMIT];
        private final int[] capacities = new int[GOODS_LIMIT];
        /** The demands of a good in the seasons stand behind one another. */
        private final int[] seasonDemands = new int[GOODS_LIMIT * SEASONS];
        private final int[] slotOfGood = new int[GOODS_LIMIT];
        private final int[] unitsInSlot = new int[GOODS_LIMIT];
        private final int[] unitsInStore = new int[GOODS_LIMIT];
        private final int[] weekPicks = new int[GOODS_LIMIT];
        private final int[] unitsPicked = new int[GOODS_LIMIT];
        private final int[] goodInSlot = new int[Slots.SLOTS];
        private final int[] settings = {30, 60, 1};
        private final Accounts accounts = new Accounts();
        private int goods;
        private int week;

        Warehouse() {
            for (int slot = 0; slot < Slots.SLOTS; slot++) {
                goodInSlot[slot] = NONE;
            }
        }

        void copyFrom(Warehouse other) {
            copyRow(other.weights, weights);
            copyRow(other.capacities, capacities);
            copyRow(other.seasonDemands, seasonDemands);
            copyRow(other.slotOfGood, slotOfGood);
            copyRow(other.unitsInSlot, unitsInSlot);
            copyRow(other.unitsInStore, unitsInStore);
            copyRow(other.weekPicks, weekPicks);
            copyRow(other.unitsPicked, unitsPicked);
            copyRow(other.goodInSlot, goodInSlot);
            copyRow(other.settings, settings);
            accounts.copyFrom(other.accounts);
            goods = other.goods;
            week = other.week;
        }

        private static void copyRow(int[] from, int[] to) {
            System.arraycopy(from, 0, to, 0, Math.min(from.length, to.length));
        }

        boolean isGood(int good) {
            return good >= 0 && good < goods;
        }

        private int presentSeason() {
            return week / SEASON_WEEKS % SEASONS;
        }

        private int weeksLeft() {
            return SEASON_WEEKS - week % SEASON_WEEKS;
        }

        private int demandOf(int good, int season) {
            return seasonDemands[good * SEASONS + season];
        }

        private boolean isPlaced(int good) {
            return Slots.isSlot(slotOfGood[good]);
        }

        private boolean bears(int slot, int good) {
            return weights[good] <= Slots.heaviestAt(slot);
        }

        // ---- goods

        int addGood(int weight, int capacity) {
            if (!isIn(weight, 1, 40) || !isIn(capacity, 1, UNITS_LIMIT)) {
                return INVALID_ARGUMENT;
            }
            if (goods >= GOODS_LIMIT) {
                return LIMIT_REACHED;
            }
            // All else of it is still 0: no good is ever removed but by an undo.
            weights[goods] = weight;
            capacities[goods] = capacity;
            slotOfGood[goods] = NONE;
            goods++;
            return goods - 1;
        }

        int changeDemand(int good, int season, int picks) {
            if (!isGood(good) || !isSeason(season) || !isIn(picks, 0, DEMAND_LIMIT)) {
                return INVALID_ARGUMENT;
            }
            int before = demandOf(good, season);
            seasonDemands[good * SEASONS + season] = picks;
            return before;
        }

        int addToStore(int good, int units) {
            if (!isGood(good) || !isIn(units, 1, 5000)) {
                return INVALID_ARGUMENT;
            }
            if (unitsInStore[good] + units > STORE_LIMIT) {
                return LIMIT_REACHED;
            }
            unitsInStore[good] += units;
            return unitsInStore[good];
        }

        int putIntoSlot(int good, int slot) {
            if (!isGood(good) || !Slots.isSlot(slot)) {
                return INVALID_ARGUMENT;
            }
            if (isPlaced(good) || isGood(goodInSlot[slot]) || !bears(slot, good)) {
                return NOT_POSSIBLE;
            }
            standIn(good, slot);
            return Slots.walkTo(slot);
        }

        int takeOutOfSlot(int good) {
            if (!isGood(good)) {
                return INVALID_ARGUMENT;
            }
            if (!isPlaced(good)) {
                return NOT_POSSIBLE;
            }
            int units = unitsInSlot[good];
            unitsInStore[good] += units;
            unitsInSlot[good] = 0;
            goodInSlot[slotOfGood[good]] = NONE;
            slotOfGood[good] = NONE;
            return units;
        }

        private void standIn(int good, int slot) {
            slotOfGood[good] = slot;
            goodInSlot[slot] = good;
        }

        int numberOfGood(int good, int what) {
            if (!isGood(good) || !isIn(what, 0, 11)) {
                return INVALID_ARGUMENT;
            }
            switch (what) {
                case 0:
                    return weights[good];
                case 1:
                    return capacities[good];
                case 6:
                    return isPlaced(good) ? slotOfGood[good] : NOT_FOUND;
                case 7:
                    return unitsInSlot[good];
                case 8:
                    return unitsInStore[good];
                case 9:
                    return weekPicks[good];
                case 10:
                    return unitsPicked[good];
                case 11:
                    return Slots.greatestHeightFor(weights[good]);
                default:
                    return demandOf(good, what - 2);
            }
        }

        int numberOfSlot(int slot, int what) {
            if (!Slots.isSlot(slot)) {
                return INVALID_ARGUMENT;
            }
            switch (what) {
                case 0:
                    return isGood(goodInSlot[slot]) ? goodInSlot[slot] : NOT_FOUND;
                case 1:
                    return Slots.walkTo(slot);
                case 2:
                    return Slots.heaviestAt(slot);
                default:
                    return INVALID_ARGUMENT;
            }
        }

        int nearestFreeSlot(int good) {
            if (!isGood(good)) {
                return INVALID_ARGUMENT;
            }
            int nearest = NOT_FOUND;
            for (int slot = 0; slot < Slots.SLOTS; slot++) {
                boolean free = !isGood(goodInSlot[slot]) && bears(slot, good);
                if (free && (nearest < 0 || Slots.walkTo(slot) < Slots.walkTo(nearest))) {
                    nearest = slot;
                }
            }
            return nearest;
        }

        // ---- picks, refills, weeks

        int pickUnits(int good, int units) {
            if (!isGood(good) || !isIn(units, 1, UNITS_LIMIT)) {
                return INVALID_ARGUMENT;
            }
            if (!isPlaced(good)) {
                return NOT_POSSIBLE;
            }
            boolean refills = unitsInSlot[good] < units && settings[REFILLS_BY_PICKS] == 1;
            int brought = refills ? unitsToBring(good) : 0;
            if (unitsInSlot[good] + brought < units) {
                return NOT_POSSIBLE;
            }
            int walk = bring(good, brought) + Slots.walkTo(slotOfGood[good]);
            unitsInSlot[good] -= units;
            unitsPicked[good] += units;
            weekPicks[good]++;
            accounts.picks++;
            accounts.pickWalk += Slots.walkTo(slotOfGood[good]);
            return walk;
        }

        int refillSlot(int good) {
            if (!isGood(good)) {
                return INVALID_ARGUMENT;
            }
            if (!isPlaced(good) || unitsToBring(good) < 1) {
                return NOT_POSSIBLE;
            }
            int brought = unitsToBring(good);
            bring(good, brought);
            return brought;
        }

        private int unitsToBring(int good) {
            return Math.min(capacities[good] - unitsInSlot[good], unitsInStore[good]);
        }

        /** Brings units from the store to the slot of a good; returns what is walked for it. */
        private int bring(int good, int units) {
            int trips = tripsFor(units * weights[good]);
            int walk = trips * (settings[BULK_DISTANCE] + Slots.walkTo(slotOfGood[good]));
            unitsInStore[good] -= units;
            unitsInSlot[good] += units;
            accounts.trips += trips;
            accounts.refillWalk += walk;
            return walk;
        }

        private int tripsFor(int kilograms) {
            int load = settings[LOAD];
            return load < 1 ? 0 : (kilograms + load - 1) / load;
        }

        int finishWeek() {
            if (week >= WEEKS_LIMIT) {
                return LIMIT_REACHED;
            }
            int season = presentSeason();
            for (int good = 0; good < goods; good++) {
                int forecast = (3 * demandOf(good, season) + weekPicks[good]) / 4;
                seasonDemands[good * SEASONS + season] = Math.min(forecast, DEMAND_LIMIT);
                weekPicks[good] = 0;
            }
            week++;
            return week;
        }

        // ---- moves

        int moveGood(int good, int slot) {
            if (!isGood(good) || !Slots.isSlot(slot)) {
                return INVALID_ARGUMENT;
            }
            if (isGood(goodInSlot[slot]) || !canGo(good, slot)) {
                return NOT_POSSIBLE;
            }
            return RAISE + goTo(good, slot);
        }

        int exchangeGoods(int one, int other) {
            if (!isGood(one) || !isGood(other) || one == other) {
                return INVALID_ARGUMENT;
            }
            if (!isPlaced(other) || !canGo(one, slotOfGood[other])) {
                return NOT_POSSIBLE;
            }
            return RAISE + goTo(one, slotOfGood[other]);
        }

        int numberOfChange(int good, int slot, int what) {
            if (!isGood(good) || !Slots.isSlot(slot) || !isIn(what, 0, 2)) {
                return INVALID_ARGUMENT;
            }
            if (!canGo(good, slot)) {
                return NOT_POSSIBLE;
            }
            if (what == 2) {
                return walkOfGoing(good, slot);
            }
            return RAISE + (what == 0 ? worthOfGoing(good, slot) : savedByGoing(good, slot));
        }

        int numberOfBest(int what) {
            if (!isIn(what, 0, 2)) {
                return INVALID_ARGUMENT;
            }
            int best = bestGoing();
            if (best < 0) {
                return NOT_FOUND;
            }
            int good = best / Slots.SLOTS;
            int slot = best % Slots.SLOTS;
            if (what == 0) {
                return good;
            }
            return what == 1 ? slot : worthOfGoing(good, slot);
        }

        int doBest(int times) {
            if (!isIn(times, 1, 10)) {
                return INVALID_ARGUMENT;
            }
            int done = 0;
            int best = bestGoing();
            while (done < times && best >= 0) {
                goTo(best / Slots.SLOTS, best % Slots.SLOTS);
                done++;
                best = bestGoing();
            }
            return done == 0 ? NOT_FOUND : done;
        }

        /**
         * The good that is worth most to go, times the slots, plus the slot to which it goes;
         * NOT_FOUND if there is none. An exchange is met at its lower good first, and what is met
         * later must be worth more: so it is told by that good, and the lowest of several is told.
         */
        private int bestGoing() {
            int best = NOT_FOUND;
            int most = 0;
            for (int good = 0; good < goods; good++) {
                for (int slot = 0; slot < Slots.SLOTS; slot++) {
                    if (canGo(good, slot) && worthOfGoing(good, slot) > most) {
                        most = worthOfGoing(good, slot);
                        best = good * Slots.SLOTS + slot;
                    }
                }
            }
            return best;
        }

        /** If the good can go to the slot, by an exchange if that has another good. */
        private boolean canGo(int good, int slot) {
            int from = slotOfGood[good];
            if (!Slots.isSlot(from) || from == slot || !bears(slot, good)) {
                return false;
            }
            int other = goodInSlot[slot];
            return !isGood(other) || bears(from, other);
        }

        private int savedByGoing(int good, int slot) {
            int picks = demandOf(good, presentSeason());
            int other = goodInSlot[slot];
            if (isGood(other)) {
                // What the good comes nearer, the other one goes farther.
                picks -= demandOf(other, presentSeason());
            }
            return picks * (Slots.walkTo(slotOfGood[good]) - Slots.walkTo(slot));
        }

        private int walkOfGoing(int good, int slot) {
            int way = Slots.wayBetween(slotOfGood[good], slot);
            int other = goodInSlot[slot];
            int back = isGood(other) ? way + weights[other] : 0;
            return way + weights[good] + back;
        }

        private int worthOfGoing(int good, int slot) {
            return savedByGoing(good, slot) * weeksLeft() - walkOfGoing(good, slot);
        }

        /** Moves the good to the slot, or exchanges it with the good there; returns the saving. */
        private int goTo(int good, int slot) {
            int saved = savedByGoing(good, slot);
            accounts.moves++;
            accounts.moveWalk += walkOfGoing(good, slot);
            accounts.saved += saved;
            int from = slotOfGood[good];
            int other = goodInSlot[slot];
            goodInSlot[from] = NONE;
            if (isGood(other)) {
                standIn(other, from);
            }
            standIn(good, slot);
            return saved;
        }

        // ---- walks

        int weeklyWalk(int season) {
            int walk = 0;
            for (int good = 0; good < goods; good++) {
                if (isPlaced(good)) {
                    walk += demandOf(good, season) * Slots.walkTo(slotOfGood[good]);
                }
            }
            return walk;
        }

        /** The more a good is picked, the shorter its walk must be: no other way is shorter. */
        int shortestWalk(int season, SortedRow demands, SortedRow walks) {
            demands.size = 0;
            walks.size = 0;
            for (int good = 0; good < goods; good++) {
                if (isPlaced(good)) {
                    demands.insert(demandOf(good, season));
                    walks.insert(Slots.walkTo(slotOfGood[good]));
                }
            }
            int walk = 0;
            for (int i = 0; i < demands.size; i++) {
                walk += demands.valueAt(i) * walks.valueAt(walks.size - 1 - i);
            }
            return walk;
        }

        int numberOfAccount(int what) {
            switch (what) {
                case 0:
                    return accounts.pickWalk;
                case 1:
                    return accounts.refillWalk;
                case 2:
                    return accounts.moveWalk;
                case 3:
                    return accounts.trips;
                case 4:
                    return RAISE + accounts.saved;
                case 5:
                    // The base is never kept: the weekly walk is the base less what was saved.
                    return RAISE + weeklyWalk(presentSeason()) + accounts.saved;
                case 6:
                    return accounts.moves;
                case 7:
                    return accounts.picks;
                default:
                    return INVALID_ARGUMENT;
            }
        }

        int numberOfWarehouse(int what) {
            switch (what) {
                case 0:
                    return goods;
                case 1:
                    return placedGoods(false);
                case 2:
                    return week;
                case 3:
                    return presentSeason();
                case 4:
                    return weeksLeft();
                case 5:
                    return sumOf(unitsInSlot);
                case 6:
                    return sumOf(unitsInStore);
                case 7:
                    return placedGoods(true);
                case 20:
                case 21:
                case 22:
                    return settings[what - 20];
                default:
                    return INVALID_ARGUMENT;
            }
        }

        private int placedGoods(boolean onlyWithoutUnits) {
            int found = 0;
            for (int good = 0; good < goods; good++) {
                if (isPlaced(good) && (!onlyWithoutUnits || unitsInSlot[good] == 0)) {
                    found++;
                }
            }
            return found;
        }

        private int sumOf(int[] row) {
            int sum = 0;
            for (int good = 0; good < goods && good < row.length; good++) {
                sum += row[good];
            }
            return sum;
        }

        int changeSetting(int what, int value) {
            if (!isIn(what, 0, 2) || !isIn(value, LEAST_SETTINGS[what], GREATEST_SETTINGS[what])) {
                return INVALID_ARGUMENT;
            }
            int before = settings[what];
            settings[what] = value;
            return before;
        }
    }

    /** What was walked, saved and done so far. */
    private static final class Accounts {
        private int pickWalk;
        private int refillWalk;
        private int moveWalk;
        private int trips;
        private int saved;
        private int moves;
        private int picks;

        void copyFrom(Accounts other) {
            pickWalk = other.pickWalk;
            refillWalk = other.refillWalk;
            moveWalk = other.moveWalk;
            trips = other.trips;
            saved = other.saved;
            moves = other.moves;
            picks = other.picks;
        }
    }

    /** Numbers of the goods, the smallest first; made once and used again by each call. */
    private static final class SortedRow {
        private final int[] values = new int[GOODS_LIMIT];
        private int size;

        void insert(int value) {
            if (size < 0 || size >= GOODS_LIMIT) {
                return;
            }
            int at = size;
            while (at > 0 && values[at - 1] > value) {
                values[at] = values[at - 1];
                at--;
            }
            values[at] = value;
            size++;
        }

        int valueAt(int index) {
            return index >= 0 && index < size ? values[index] : 0;
        }
    }

    /** The text, and the order that was read from it last. */
    private static final class OrderText {
        private static final int DIGITS_LIMIT = 3;

        private final char[] signs = new char[TEXT_LIMIT];
        private int length;
        private int at;
        private int kind;
        private int first;
        private int second;

        int append(int character) {
            if (!isIn(character, 32, 126)) {
                return INVALID_ARGUMENT;
            }
            if (length >= TEXT_LIMIT) {
                return LIMIT_REACHED;
            }
            signs[length] = (char) character;
            length++;
            return length;
        }

        void startReading() {
            at = 0;
        }

        boolean isAtEnd() {
            return at >= length;
        }

        /** Reads the next order and its ";"; returns if it is of the form. */
        boolean readOrder() {
            kind = nextSign();
            at++;
            switch (kind) {
                case 'w':
                    return readSign(';');
                case 'r':
                    first = readNumber();
                    return first >= 0 && readSign(';');
                case 'p':
                case 'm':
                case 'x':
                    return readTwoNumbers() && readSign(';');
                default:
                    return false;
            }
        }

        private boolean readTwoNumbers() {
            first = readNumber();
            if (first < 0 || !readSign(',')) {
                return false;
            }
            second = readNumber();
            return second >= 0;
        }

        /** The number of at most 3 digits that stands next; NONE if no digit does. */
        private int readNumber() {
            int number = 0;
            int digits = 0;
            while (digits < DIGITS_LIMIT && isDigit(nextSign())) {
                number = 10 * number + (nextSign() - '0');
                digits++;
                at++;
            }
            return digits == 0 ? NONE : number;
        }

        private boolean readSign(char sign) {
            if (nextSign() != sign) {
                return false;
            }
            at++;
            return true;
        }

        /** The sign that stands next; behind the text it is one that no order has. */
        private char nextSign() {
            return at >= 0 && at < length && at < TEXT_LIMIT ? signs[at] : ' ';
        }

        private static boolean isDigit(char sign) {
            return sign >= '0' && sign <= '9';
        }
    }
}
