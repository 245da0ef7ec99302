/**
 * Runs of at most 512 calls on new objects, each answer compared with the model's: all promises
 * together, in states that no written run reaches. The numbers are always the same ones.
 */
public final class RandomRunsTest {
    private static final String[] CHANGES = {"good", "demand", "deliver", "place", "take", "pick", "refill",
        "endWeek", "move", "exchange", "improve", "set"};
    private static long seed = 1;

    private final PickSlots x = new PickSlots();
    private final Model m = new Model();
    private final int run;
    private int goods;
    private int calls;

    private RandomRunsTest(int run) {
        this.run = run;
    }

    public static void main(String[] args) {
        for (int run = 0; run < 400; run++) {
            new RandomRunsTest(run).go();
        }
        Check.end();
    }

    private static int below(int bound) {
        seed = seed * 6364136223846793005L + 1442695040888963407L;
        return (int) ((seed >>> 33) % bound);
    }

    private static int in(int least, int greatest) {
        return least + below(greatest - least + 1);
    }

    /** Mostly in the range, at times at its edges or out of it. */
    private static int near(int least, int greatest) {
        int way = below(60);
        if (way < 2) {
            return way == 0 ? least : greatest;
        }
        if (way == 2) {
            return below(2) == 0 ? least - 1 : greatest + 1;
        }
        return way == 3 && below(3) == 0 ? Check.WILD[below(Check.WILD.length)] : in(least, greatest);
    }

    private void due(String call, int got, int want) {
        calls++;
        Check.due("run " + run + " call " + calls + ": " + call, got, want);
    }

    private int someGood() {
        return near(0, Math.max(0, goods - 1));
    }

    private int someSlot() {
        return below(3) == 0 ? near(0, 59) : near(0, 15);
    }

    private void go() {
        int first = in(1, run % 4 == 0 ? 20 : 8);
        for (int n = 0; n < first; n++) {
            change("good");
            change("place");
            change("demand");
            change("deliver");
        }
        while (calls < 480) {
            int way = below(20);
            if (way < 9) {
                change(CHANGES[below(CHANGES.length)]);
            } else if (way < 17) {
                tell(below(10));
            } else if (way == 17) {
                due("undo", x.undo(), m.undo());
                goods = m.count(0);
            } else if (calls < 440) {
                write();
            }
        }
        compareAccounts();
    }

    private void change(String name) {
        int a = someGood();
        int b = 0;
        int c = 0;
        switch (name) {
            case "good": a = near(1, below(2) == 0 ? 40 : 8); b = near(1, below(2) == 0 ? 200 : 20); break;
            case "demand": b = near(0, 3); c = near(0, below(2) == 0 ? 999 : 30); break;
            case "deliver": b = near(1, below(2) == 0 ? 5000 : 30); break;
            case "place": b = someSlot(); break;
            case "pick": b = near(1, below(4) == 0 ? 200 : 12); break;
            case "move": b = someSlot(); break;
            case "exchange": b = someGood(); break;
            case "improve": a = near(1, 10); break;
            case "set": a = near(0, 2); b = a == 2 ? near(0, 1) : near(0, 500 - 300 * (a == 0 ? 1 : 0)); break;
            default: break;
        }
        due(name + " " + a + " " + b + " " + c, called(name, a, b, c), m.change(name, a, b, c));
        goods = m.count(0);
    }

    private int called(String name, int a, int b, int c) {
        switch (name) {
            case "good": return x.good(a, b);
            case "demand": return x.demand(a, b, c);
            case "deliver": return x.deliver(a, b);
            case "place": return x.place(a, b);
            case "take": return x.take(a);
            case "pick": return x.pick(a, b);
            case "refill": return x.refill(a);
            case "endWeek": return x.endWeek();
            case "move": return x.move(a, b);
            case "exchange": return x.exchange(a, b);
            case "improve": return x.improve(a);
            default: return x.set(a, b);
        }
    }

    private void tell(int which) {
        int good = someGood();
        int slot = someSlot();
        int what = near(0, 11);
        int few = near(0, 2);
        int season = near(0, 3);
        switch (which) {
            case 0: due("goodOf " + good + " " + what, x.goodOf(good, what), m.goodOf(good, what)); break;
            case 1: due("slotOf " + slot + " " + few, x.slotOf(slot, few), m.slotOf(slot, few)); break;
            case 2: due("nearest " + good, x.nearest(good), m.nearest(good)); break;
            case 3: due("worth " + good + " " + slot + " " + few, x.worth(good, slot, few), m.worth(good, slot, few));
                break;
            case 4: due("best " + few, x.best(few), m.best(few)); break;
            case 5: due("weekly " + season, x.weekly(season), m.weekly(season)); break;
            case 6: atBest(season); break;
            case 7: due("account " + what, x.account(what), m.account(what)); break;
            case 8: due("count " + what, x.count(what), m.count(what)); break;
            default: due("count " + (20 + few), x.count(20 + few), m.count(20 + few)); break;
        }
    }

    private void atBest(int season) {
        int want = m.atBest(season);
        if (want != Integer.MIN_VALUE) {
            due("atBest " + season, x.atBest(season), want);
        }
    }

    private void write() {
        if (below(3) > 0) {
            due("clearText", x.clearText(), m.clearText());
        }
        StringBuilder text = new StringBuilder();
        int orders = in(1, 4);
        for (int n = 0; n < orders; n++) {
            text.append(someOrder());
        }
        if (below(6) == 0) {
            text.setCharAt(below(text.length()), "pmxrw,;0123456789 "
                    .charAt(below(18)));
        }
        for (int i = 0; i < text.length() && calls < 470; i++) {
            due("type " + text.charAt(i), x.type(text.charAt(i)), m.type(text.charAt(i)));
        }
        due("fault 0", x.fault(0), m.fault(0));
        due("fault 1", x.fault(1), m.fault(1));
        due("play", x.play(), m.change("play"));
    }

    private String someOrder() {
        int good = in(0, Math.max(0, below(10) == 0 ? goods : goods - 1));
        switch (below(6)) {
            case 0: return "w;";
            case 1: return "r" + good + ";";
            case 2: return "m" + good + "," + in(0, below(4) == 0 ? 61 : 12) + ";";
            case 3: return "x0" + good + "," + in(0, Math.max(1, goods - 1)) + ";";
            default: return "p" + good + "," + in(0, 8) + ";";
        }
    }

    private void compareAccounts() {
        for (int what = 0; what < 10; what++) {
            due("count " + what, x.count(what), m.count(what));
            due("account " + what, x.account(what), m.account(what));
        }
    }
}
