import java.util.ArrayDeque;
import java.util.ArrayList;
import java.util.Deque;
import java.util.List;
import java.util.regex.Matcher;
import java.util.regex.Pattern;

/**
 * The document once more, by its definitions alone: savings are told from two weekly walks, the
 * base is summed up change by change, trips are counted one by one, orders are cut by a pattern.
 */
final class Model {
    private static final int RAISE = 100000000;
    private static final Pattern ORDER = Pattern.compile(
            "([pmx])([0-9]{1,3}),([0-9]{1,3});|(r)([0-9]{1,3});|(w);");

    private static final class Good {
        int weight;
        int capacity;
        int[] demand = new int[4];
        int slot = -1;
        int units;
        int store;
        int picks;
        int picked;

        Good copy() {
            Good g = new Good();
            g.weight = weight;
            g.capacity = capacity;
            g.demand = demand.clone();
            g.slot = slot;
            g.units = units;
            g.store = store;
            g.picks = picks;
            g.picked = picked;
            return g;
        }
    }

    private static final class State {
        List<Good> goods = new ArrayList<>();
        int week;
        int[] settings = {30, 60, 1};
        int[] accounts = new int[8];

        State copy() {
            State s = new State();
            for (Good g : goods) {
                s.goods.add(g.copy());
            }
            s.week = week;
            s.settings = settings.clone();
            s.accounts = accounts.clone();
            return s;
        }
    }

    private State state = new State();
    private final Deque<State> history = new ArrayDeque<>();
    private String text = "";

    // ---- what the state tells

    private boolean has(int good) {
        return good >= 0 && good < state.goods.size();
    }

    private static boolean slotIs(int slot) {
        return slot >= 0 && slot < 60;
    }

    private Good at(int slot) {
        for (Good g : state.goods) {
            if (g.slot == slot) {
                return g;
            }
        }
        return null;
    }

    private static int reach(int slot) {
        return new int[] {3, 0, 0, 2, 5, 9}[slot % 6];
    }

    private static int walk(int slot) {
        return slot / 6 * 4 + 4 + reach(slot);
    }

    private static int bears(int slot) {
        return new int[] {40, 30, 20, 15, 8, 5}[slot % 6];
    }

    private int season() {
        return state.week / 13 % 4;
    }

    private int left() {
        int weeks = 1;
        while ((state.week + weeks) / 13 == state.week / 13) {
            weeks++;
        }
        return weeks;
    }

    private int walkOf(int season) {
        int sum = 0;
        for (Good g : state.goods) {
            if (g.slot >= 0) {
                sum += g.demand[season] * walk(g.slot);
            }
        }
        return sum;
    }

    // ---- the calls that may change something; what is not possible changes nothing

    /** Does a change by its name; keeps the state ahead of it if it is no error. */
    int change(String name, int... args) {
        State before = state.copy();
        int answer = apply(name, args);
        if (answer < 0) {
            state = before;
            return answer;
        }
        history.addLast(before);
        if (history.size() == 5) {
            history.removeFirst();
        }
        return answer;
    }

    private int apply(String name, int... args) {
        int weekly = walkOf(season());
        int answer;
        switch (name) {
            case "move": return move(args[0], args[1]);
            case "exchange": return exchange(args[0], args[1]);
            case "improve": return improve(args[0]);
            case "play": return playAll();
            case "good": answer = good(args[0], args[1]); break;
            case "demand": answer = demand(args[0], args[1], args[2]); break;
            case "deliver": answer = deliver(args[0], args[1]); break;
            case "place": answer = place(args[0], args[1]); break;
            case "take": answer = take(args[0]); break;
            case "pick": answer = pick(args[0], args[1]); break;
            case "refill": answer = refill(args[0]); break;
            case "endWeek": answer = endWeek(); break;
            case "set": answer = set(args[0], args[1]); break;
            default: throw new IllegalArgumentException(name);
        }
        if (answer >= 0) {
            state.accounts[5] += walkOf(season()) - weekly;
        }
        return answer;
    }

    private int good(int weight, int capacity) {
        if (weight < 1 || weight > 40 || capacity < 1 || capacity > 200) {
            return -1;
        }
        if (state.goods.size() == 20) {
            return -3;
        }
        Good g = new Good();
        g.weight = weight;
        g.capacity = capacity;
        state.goods.add(g);
        return state.goods.size() - 1;
    }

    private int demand(int good, int season, int picks) {
        if (!has(good) || season < 0 || season > 3 || picks < 0 || picks > 999) {
            return -1;
        }
        int was = state.goods.get(good).demand[season];
        state.goods.get(good).demand[season] = picks;
        return was;
    }

    private int deliver(int good, int units) {
        if (!has(good) || units < 1 || units > 5000) {
            return -1;
        }
        Good g = state.goods.get(good);
        if (g.store + units > 100000) {
            return -3;
        }
        return g.store += units;
    }

    private int place(int good, int slot) {
        if (!has(good) || !slotIs(slot)) {
            return -1;
        }
        Good g = state.goods.get(good);
        if (g.slot >= 0 || at(slot) != null || g.weight > bears(slot)) {
            return -2;
        }
        g.slot = slot;
        g.units = 0;
        return walk(slot);
    }

    private int take(int good) {
        if (!has(good)) {
            return -1;
        }
        Good g = state.goods.get(good);
        if (g.slot < 0) {
            return -2;
        }
        int units = g.units;
        g.store += units;
        g.units = 0;
        g.slot = -1;
        return units;
    }

    private int bring(Good g) {
        int units = 0;
        while (g.units < g.capacity && g.store > 0) {
            g.units++;
            g.store--;
            units++;
        }
        int trips = 0;
        for (int rest = units * g.weight; rest > 0; rest -= state.settings[1]) {
            trips++;
        }
        state.accounts[3] += trips;
        state.accounts[1] += trips * (state.settings[0] + walk(g.slot));
        return units;
    }

    private int pick(int good, int units) {
        if (!has(good) || units < 1 || units > 200) {
            return -1;
        }
        Good g = state.goods.get(good);
        if (g.slot < 0) {
            return -2;
        }
        int walked = state.accounts[0] + state.accounts[1];
        if (g.units < units && state.settings[2] == 1) {
            bring(g);
        }
        if (g.units < units) {
            return -2;
        }
        g.units -= units;
        g.picked += units;
        g.picks++;
        state.accounts[7]++;
        state.accounts[0] += walk(g.slot);
        return state.accounts[0] + state.accounts[1] - walked;
    }

    private int refill(int good) {
        if (!has(good)) {
            return -1;
        }
        Good g = state.goods.get(good);
        if (g.slot < 0) {
            return -2;
        }
        int units = bring(g);
        return units == 0 ? -2 : units;
    }

    private int endWeek() {
        if (state.week + 1 > 1000) {
            return -3;
        }
        for (Good g : state.goods) {
            g.demand[season()] = Math.min(999, (3 * g.demand[season()] + g.picks) / 4);
            g.picks = 0;
        }
        return ++state.week;
    }

    private int set(int what, int value) {
        if (what < 0 || what > 2 || value < (what == 1 ? 1 : 0) || value > new int[] {200, 500, 1}[what]) {
            return -1;
        }
        int was = state.settings[what];
        state.settings[what] = value;
        return was;
    }

    private static int way(int from, int to, int weight) {
        return 4 * Math.abs(from / 6 - to / 6) + reach(from) + reach(to) + weight;
    }

    private int move(int good, int slot) {
        if (!has(good) || !slotIs(slot)) {
            return -1;
        }
        Good g = state.goods.get(good);
        if (g.slot < 0 || at(slot) != null || g.weight > bears(slot)) {
            return -2;
        }
        int before = walkOf(season());
        state.accounts[2] += way(g.slot, slot, g.weight);
        g.slot = slot;
        return moved(before);
    }

    private int exchange(int one, int other) {
        if (!has(one) || !has(other) || one == other) {
            return -1;
        }
        Good a = state.goods.get(one);
        Good b = state.goods.get(other);
        if (a.slot < 0 || b.slot < 0 || a.weight > bears(b.slot) || b.weight > bears(a.slot)) {
            return -2;
        }
        int before = walkOf(season());
        state.accounts[2] += way(a.slot, b.slot, a.weight) + way(b.slot, a.slot, b.weight);
        int slot = a.slot;
        a.slot = b.slot;
        b.slot = slot;
        return moved(before);
    }

    private int moved(int before) {
        int saved = before - walkOf(season());
        state.accounts[4] += saved;
        state.accounts[6]++;
        return RAISE + saved;
    }

    private int improve(int times) {
        if (times < 1 || times > 10) {
            return -1;
        }
        for (int n = 0; n < times; n++) {
            int[] best = findBest();
            if (best == null) {
                return n == 0 ? -4 : n;
            }
            go(best[0], best[1]);
        }
        return times;
    }

    private int go(int good, int slot) {
        Good other = at(slot);
        return other == null ? move(good, slot) : exchange(good, state.goods.indexOf(other));
    }

    /** What was walked and saved if the good went to the slot, tried on a copy; null if it can't. */
    private int[] tried(int good, int slot) {
        State before = state;
        state = before.copy();
        int answer = go(good, slot);
        int walked = state.accounts[2] - before.accounts[2];
        state = before;
        return answer < 0 ? null : new int[] {answer - RAISE, walked};
    }

    private int[] findBest() {
        int[] best = null;
        for (int good = 0; good < state.goods.size(); good++) {
            for (int slot = 0; slot < 60 && state.goods.get(good).slot >= 0; slot++) {
                Good there = at(slot);
                if (there != null && state.goods.indexOf(there) <= good) {
                    continue; // told by the lower good, or no exchange at all
                }
                int[] change = tried(good, slot);
                if (change == null) {
                    continue;
                }
                int worth = change[0] * left() - change[1];
                if (worth > 0 && (best == null || worth > best[2])) {
                    best = new int[] {good, slot, worth};
                }
            }
        }
        return best;
    }

    // ---- the calls that only tell something

    int goodOf(int good, int what) {
        if (!has(good) || what < 0 || what > 11) {
            return -1;
        }
        Good g = state.goods.get(good);
        int height = 5;
        while (bears(height) < g.weight) {
            height--;
        }
        int[] told = {g.weight, g.capacity, g.demand[0], g.demand[1], g.demand[2], g.demand[3],
            g.slot < 0 ? -4 : g.slot, g.units, g.store, g.picks, g.picked, height};
        return told[what];
    }

    int slotOf(int slot, int what) {
        if (!slotIs(slot) || what < 0 || what > 2) {
            return -1;
        }
        if (what == 0) {
            return at(slot) == null ? -4 : state.goods.indexOf(at(slot));
        }
        return what == 1 ? walk(slot) : bears(slot);
    }

    int nearest(int good) {
        if (!has(good)) {
            return -1;
        }
        for (int paces = 0; paces < 100; paces++) {
            for (int slot = 0; slot < 60; slot++) {
                if (walk(slot) == paces && at(slot) == null && state.goods.get(good).weight <= bears(slot)) {
                    return slot;
                }
            }
        }
        return -4;
    }

    int worth(int good, int slot, int what) {
        if (!has(good) || !slotIs(slot) || what < 0 || what > 2) {
            return -1;
        }
        Good g = state.goods.get(good);
        int[] change = g.slot < 0 || g.slot == slot ? null : tried(good, slot);
        if (change == null) {
            return -2;
        }
        return what == 0 ? RAISE + change[0] * left() - change[1] : what == 1 ? RAISE + change[0] : change[1];
    }

    int best(int what) {
        if (what < 0 || what > 2) {
            return -1;
        }
        int[] best = findBest();
        return best == null ? -4 : best[what];
    }

    int weekly(int season) {
        return season < 0 || season > 3 ? -1 : walkOf(season);
    }

    /** The best way of all, by goods one after the other and sets of slots that are taken. */
    int atBest(int season) {
        if (season < 0 || season > 3) {
            return -1;
        }
        List<Good> placed = new ArrayList<>();
        for (Good g : state.goods) {
            if (g.slot >= 0) {
                placed.add(g);
            }
        }
        int n = placed.size();
        if (n > 9) {
            return Integer.MIN_VALUE; // too many for this way
        }
        int[] least = new int[1 << n];
        for (int taken = 1; taken < 1 << n; taken++) {
            least[taken] = Integer.MAX_VALUE;
            Good next = placed.get(Integer.bitCount(taken) - 1);
            for (int s = 0; s < n; s++) {
                if ((taken >> s & 1) == 1) {
                    int sum = least[taken ^ 1 << s] + next.demand[season] * walk(placed.get(s).slot);
                    least[taken] = Math.min(least[taken], sum);
                }
            }
        }
        return least[(1 << n) - 1];
    }

    int account(int what) {
        if (what < 0 || what > 7) {
            return -1;
        }
        return state.accounts[what] + (what == 4 || what == 5 ? RAISE : 0);
    }

    int count(int what) {
        int placed = 0;
        int units = 0;
        int store = 0;
        int empty = 0;
        for (Good g : state.goods) {
            placed += g.slot >= 0 ? 1 : 0;
            units += g.units;
            store += g.store;
            empty += g.slot >= 0 && g.units == 0 ? 1 : 0;
        }
        int[] told = {state.goods.size(), placed, state.week, season(), left(), units, store, empty,
            history.size(), text.length()};
        if (what >= 20 && what <= 22) {
            return state.settings[what - 20];
        }
        return what < 0 || what > 9 ? -1 : told[what];
    }

    int undo() {
        if (history.isEmpty()) {
            return -2;
        }
        state = history.removeLast();
        return history.size();
    }

    // ---- texts

    int type(int character) {
        if (character < 32 || character > 126) {
            return -1;
        }
        if (text.length() == 60) {
            return -3;
        }
        text += (char) character;
        return text.length();
    }

    int clearText() {
        int length = text.length();
        text = "";
        return length;
    }

    int fault(int what) {
        if (what < 0 || what > 1) {
            return -1;
        }
        State before = state;
        state = before.copy();
        int[] fault = run();
        state = before;
        return fault[1] == 0 ? -4 : fault[what];
    }

    private int playAll() {
        int[] fault = run();
        return fault[1] == 0 ? fault[2] : -2;
    }

    /** Does the orders; answers the position and the reason of the fault, and how many were done. */
    private int[] run() {
        int done = 0;
        String rest = text;
        while (!rest.isEmpty()) {
            int position = text.length() - rest.length();
            Matcher m = ORDER.matcher(rest);
            if (!m.lookingAt()) {
                return new int[] {position, 1, done};
            }
            int reason = reason(m);
            if (reason != 0) {
                return new int[] {position, reason, done};
            }
            done++;
            rest = rest.substring(m.end());
        }
        return new int[] {0, 0, done};
    }

    private int reason(Matcher m) {
        if (m.group(6) != null) {
            return apply("endWeek") < 0 ? 3 : 0;
        }
        if (m.group(4) != null) {
            int good = Integer.parseInt(m.group(5));
            return !has(good) ? 2 : apply("refill", good) < 0 ? 3 : 0;
        }
        int one = Integer.parseInt(m.group(2));
        int two = Integer.parseInt(m.group(3));
        String name = m.group(1).equals("p") ? "pick" : m.group(1).equals("m") ? "move" : "exchange";
        boolean missing = !has(one) || name.equals("move") && !slotIs(two) || name.equals("exchange") && !has(two);
        return missing ? 2 : apply(name, one, two) < 0 ? 3 : 0;
    }
}
