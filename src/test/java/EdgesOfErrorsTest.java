import java.util.function.Supplier;
import java.util.function.ToIntFunction;

/** Boundary cases of the term Changes and errors, and of how long an object is used. */
public final class EdgesOfErrorsTest {
    private static final int RAISE = Check.RAISE;
    private static final int[] NO_GOODS = {-1, 4, 19, 20, 21, Integer.MIN_VALUE, Integer.MAX_VALUE};
    private static final int[] NO_SLOTS = {-1, 60, 61, Integer.MIN_VALUE, Integer.MAX_VALUE};

    public static void main(String[] args) {
        Sentences.testAll(EdgesOfErrorsTest.class);
    }

    /** Goods 0 to 2 in the slots 0, 58 and 57, good 3 in none; all picks are refilled from the store. */
    private static PickSlots prepared() {
        PickSlots x = new PickSlots();
        x.good(31, 10);
        x.good(2, 10);
        x.good(1, 10);
        x.good(1, 10);
        x.place(0, 0);
        x.place(1, 58);
        x.place(2, 57);
        x.deliver(0, 100);
        x.deliver(1, 100);
        x.demand(1, 0, 100);
        x.demand(2, 1, 50);
        x.pick(1, 4);
        return x;
    }

    private static PickSlots preparedWith(String text) {
        PickSlots x = prepared();
        Check.typeText(x, text);
        return x;
    }

    // ---- Changes

    private static void isChange(String name, ToIntFunction<PickSlots> call, Supplier<PickSlots> from) {
        PickSlots x = from.get();
        Check.due("undo ahead of " + name, x.undo(), 3);
        String before = Made.whole(x);
        Check.holds(name + " is possible", call.applyAsInt(x) >= 0);
        Check.due(name + " is one change", x.count(8), 4);
        Check.due("undo of " + name, x.undo(), 3);
        Check.holds("undo of " + name + " restores all", before.equals(Made.whole(x)));
    }

    @Sentence("The changes are the calls of good, demand, deliver, place, take, pick, refill, move, exchange, improve, "
            + "endWeek, set and play that return no error.")
    static void eachChangeIsRecorded() {
        Supplier<PickSlots> from = () -> preparedWith("p1,1;m1,9;w;");
        isChange("good", x -> x.good(5, 5), from);
        isChange("demand", x -> x.demand(1, 0, 7), from);
        isChange("demand as it was", x -> x.demand(1, 0, 100), from);
        isChange("demand 0 as it was", x -> x.demand(0, 0, 0), from);
        isChange("deliver", x -> x.deliver(2, 1), from);
        isChange("place", x -> x.place(3, 1), from);
        isChange("take", x -> x.take(0), from);
        isChange("take of no units", x -> x.take(2), from);
        isChange("pick", x -> x.pick(1, 7), from);
        isChange("refill", x -> x.refill(1), from);
        isChange("move", x -> x.move(1, 1), from);
        isChange("move that saves nothing", x -> x.move(0, 6), from);
        isChange("exchange", x -> x.exchange(1, 2), from);
        isChange("improve", x -> x.improve(10), from);
        isChange("endWeek", PickSlots::endWeek, from);
        isChange("set", x -> x.set(1, 17), from);
        isChange("set as it was", x -> x.set(0, 30), from);
        isChange("play", PickSlots::play, from);
        isChange("play of none", PickSlots::play, EdgesOfErrorsTest::prepared);
    }

    @Sentence("The changes are the calls of good, demand, deliver, place, take, pick, refill, move, exchange, improve, "
            + "endWeek, set and play that return no error.")
    static void otherCallsAreNoChanges() {
        PickSlots x = Made.light(2);
        x.place(0, 59);
        x.goodOf(0, 0);
        x.slotOf(0, 0);
        x.nearest(0);
        x.worth(0, 1, 0);
        x.best(0);
        x.weekly(0);
        x.atBest(0);
        x.account(0);
        x.count(0);
        Check.due("telling is no change", x.count(8), 3);
        x.type('w');
        x.fault(0);
        x.clearText();
        Check.due("nor are texts", x.count(8), 3);
        Check.due("nor is undo", x.undo(), 2);
        Check.due("it is not undone itself", x.undo(), 1);
    }

    @Sentence("A history of at most 4 states is kept: each change records everything before it but the text, "
            + "and if there are 5 states then, the oldest one is dropped.")
    static void theOldestStateIsDropped() {
        for (int changes = 3; changes <= 9; changes++) {
            PickSlots x = new PickSlots();
            for (int n = 0; n < changes; n++) {
                Check.due("states", x.count(8), Math.min(n, 4));
                x.endWeek();
            }
            int kept = Math.min(changes, 4);
            for (int n = 1; n <= kept; n++) {
                Check.due("undo " + n + " of " + changes, x.undo(), kept - n);
                Check.due("week", x.count(2), changes - n);
            }
            Check.due("no more", x.undo(), Check.IMPOSSIBLE);
            Check.due("week stays", x.count(2), changes - kept);
        }
    }

    @Sentence("each change records everything before it but the text")
    static void theTextIsNotRecorded() {
        PickSlots x = new PickSlots();
        Check.typeText(x, "w;");
        x.endWeek();
        x.type('w');
        Check.due("undo", x.undo(), 0);
        Check.due("what was typed then stays", x.count(9), 3);
        x.endWeek();
        x.clearText();
        Check.due("undo", x.undo(), 0);
        Check.due("what was cleared then stays so", x.count(9), 0);
        Check.due("no fault", x.fault(0), Check.MISSING);
    }

    @Sentence("each change records everything before it but the text")
    static void everythingElseIsRecorded() {
        PickSlots x = preparedWith("p1,1;p0,2;r1;m1,9;x1,2;w;");
        Check.due("undo", x.undo(), 3);
        String before = Made.whole(x);
        Check.due("play of all orders", x.play(), 6);
        x.improve(10);
        x.set(0, 0);
        x.good(1, 1);
        for (int left = 3; left >= 0; left--) {
            Check.due("undo", x.undo(), left);
        }
        Check.holds("everything is restored", before.equals(Made.whole(x)));
    }

    // ---- Which error

    @Sentence("INVALID_ARGUMENT is returned rather than NOT_POSSIBLE")
    static void invalidRatherThanNotPossible() {
        PickSlots x = prepared();
        Check.due("place: in a slot, no such slot", x.place(0, 60), Check.INVALID);
        Check.due("place: slot has a good, no such good", x.place(4, 0), Check.INVALID);
        Check.due("take: no such good", x.take(4), Check.INVALID);
        Check.due("pick: in no slot, no units", x.pick(3, 0), Check.INVALID);
        Check.due("pick: too many for the slot and for all", x.pick(2, 201), Check.INVALID);
        Check.due("refill: no such good", x.refill(4), Check.INVALID);
        Check.due("move: in no slot, no such slot", x.move(3, 60), Check.INVALID);
        Check.due("move: slot has a good, no such good", x.move(4, 0), Check.INVALID);
        Check.due("exchange: in no slot, with itself", x.exchange(3, 3), Check.INVALID);
        Check.due("exchange: in no slot, no such good", x.exchange(3, 4), Check.INVALID);
        Check.due("exchange: no such good, in no slot", x.exchange(4, 3), Check.INVALID);
        Check.due("worth: in no slot, what", x.worth(3, 1, 3), Check.INVALID);
        Check.due("worth: in this one, what", x.worth(0, 0, -1), Check.INVALID);
        Check.due("worth: too heavy, what", x.worth(0, 1, 3), Check.INVALID);
        Check.due("worth: in no slot, no such slot", x.worth(3, 60, 0), Check.INVALID);
    }

    /** No call can tell NOT_POSSIBLE and LIMIT_REACHED, or LIMIT_REACHED and NOT_FOUND, at once. */
    @Sentence("If several errors apply to a call, INVALID_ARGUMENT is returned")
    static void invalidRatherThanLimitReached() {
        PickSlots x = Made.light(20);
        Check.due("good: 20 and weight 0", x.good(0, 1), Check.INVALID);
        Check.due("good: 20 and weight 41", x.good(41, 1), Check.INVALID);
        Check.due("good: 20 and capacity 0", x.good(1, 0), Check.INVALID);
        Check.due("good: 20 and capacity 201", x.good(1, 201), Check.INVALID);
        Made.fillStore(x, 0);
        Check.due("deliver: full and 0", x.deliver(0, 0), Check.INVALID);
        Check.due("deliver: full and 5001", x.deliver(0, 5001), Check.INVALID);
        Check.due("deliver: more than an int holds", x.deliver(0, Integer.MAX_VALUE), Check.INVALID);
        Check.typeText(x, "w".repeat(60));
        Check.due("type: 60 and 31", x.type(31), Check.INVALID);
        Check.due("type: 60 and 127", x.type(127), Check.INVALID);
    }

    @Sentence("If several errors apply to a call, INVALID_ARGUMENT is returned")
    static void invalidRatherThanNotFound() {
        PickSlots x = prepared();
        x.endWeek();
        Check.due("goodOf: in no slot, no such what", x.goodOf(3, 12), Check.INVALID);
        Check.due("goodOf: no such good", x.goodOf(4, 6), Check.INVALID);
        Check.due("slotOf: without a good, no such what", x.slotOf(1, 3), Check.INVALID);
        Check.due("slotOf: no such slot", x.slotOf(60, 0), Check.INVALID);
        Check.due("nearest: no such good", x.nearest(4), Check.INVALID);
        Check.due("fault: none, no such what", x.fault(2), Check.INVALID);
        PickSlots y = Made.light(1);
        Check.due("best: none, no such what", y.best(3), Check.INVALID);
        Check.due("improve: nothing, 0 times", y.improve(0), Check.INVALID);
        Check.due("improve: nothing, 11 times", y.improve(11), Check.INVALID);
    }

    @Sentence("If there is no good or slot with a certain number, this is INVALID_ARGUMENT.")
    static void noSuchGood() {
        for (int good : NO_GOODS) {
            PickSlots x = prepared();
            Check.due("demand " + good, x.demand(good, 0, 1), Check.INVALID);
            Check.due("deliver " + good, x.deliver(good, 1), Check.INVALID);
            Check.due("place " + good, x.place(good, 1), Check.INVALID);
            Check.due("take " + good, x.take(good), Check.INVALID);
            Check.due("goodOf " + good, x.goodOf(good, 0), Check.INVALID);
            Check.due("nearest " + good, x.nearest(good), Check.INVALID);
            Check.due("pick " + good, x.pick(good, 1), Check.INVALID);
            Check.due("refill " + good, x.refill(good), Check.INVALID);
            Check.due("move " + good, x.move(good, 1), Check.INVALID);
            Check.due("exchange " + good, x.exchange(good, 1), Check.INVALID);
            Check.due("exchange with " + good, x.exchange(1, good), Check.INVALID);
            Check.due("exchange of both " + good, x.exchange(good, good), Check.INVALID);
            Check.due("worth " + good, x.worth(good, 1, 0), Check.INVALID);
        }
    }

    @Sentence("If there is no good or slot with a certain number, this is INVALID_ARGUMENT.")
    static void noSuchSlot() {
        for (int slot : NO_SLOTS) {
            PickSlots x = prepared();
            Check.due("place " + slot, x.place(3, slot), Check.INVALID);
            Check.due("slotOf " + slot, x.slotOf(slot, 0), Check.INVALID);
            Check.due("move " + slot, x.move(1, slot), Check.INVALID);
            Check.due("worth " + slot, x.worth(1, slot, 0), Check.INVALID);
        }
    }

    @Sentence("If there is no good or slot with a certain number, this is INVALID_ARGUMENT.")
    static void noSuchGoodAnyMore() {
        PickSlots x = new PickSlots();
        x.good(3, 7);
        x.demand(0, 0, 5);
        x.deliver(0, 50);
        x.place(0, 1);
        for (int left = 3; left >= 0; left--) {
            x.undo();
        }
        Check.due("it is undone", x.goodOf(0, 0), Check.INVALID);
        Check.due("nor is it in the slot", x.slotOf(1, 0), Check.MISSING);
        Check.due("a new one", x.good(1, 1), 0);
        int[] told = {1, 1, 0, 0, 0, 0, Check.MISSING, 0, 0, 0, 0, 5};
        for (int what = 0; what < told.length; what++) {
            Check.due("has nothing of it: " + what, x.goodOf(0, what), told[what]);
        }
    }

    @Sentence("(Numbers that may be negative are returned 100000000 higher.)")
    static void raisedNumbers() {
        PickSlots x = Made.placed(1, 1, 1);
        x.demand(0, 0, 1);
        Check.due("worth below 0", x.worth(0, 3, 0), RAISE - 13 * 2 - 3);
        Check.due("saving below 0", x.worth(0, 3, 1), RAISE - 2);
        Check.due("a walk is not raised", x.worth(0, 3, 2), 3);
        Check.due("move below 0", x.move(0, 3), RAISE - 2);
        Check.due("saved below 0", x.account(4), RAISE - 2);
        x.demand(0, 0, 0);
        Check.due("base below 0", x.account(5), RAISE - 2);
        x.demand(0, 0, 100);
        Check.due("what is best is above 0, and not raised", x.best(2), 13 * 200 - 3);
        x.good(1, 1);
        x.place(1, 1);
        Check.due("exchange above 0", x.exchange(0, 1), RAISE + 200);
        Check.due("exchange below 0", x.exchange(0, 1), RAISE - 200);
    }

    @Sentence("The constants:")
    static void constants() {
        Check.due("INVALID_ARGUMENT", PickSlots.INVALID_ARGUMENT, -1);
        Check.due("NOT_POSSIBLE", PickSlots.NOT_POSSIBLE, -2);
        Check.due("LIMIT_REACHED", PickSlots.LIMIT_REACHED, -3);
        Check.due("NOT_FOUND", PickSlots.NOT_FOUND, -4);
    }

    // ---- A call that returns an error changes nothing

    /** Two objects are made alike; only the one gets the call, and no one can tell them apart then. */
    private static void refused(String name, int error, ToIntFunction<PickSlots> call, Supplier<PickSlots> from) {
        PickSlots x = from.get();
        PickSlots untouched = from.get();
        Check.due(name, call.applyAsInt(x), error);
        Check.due(name + " records nothing", x.count(8), untouched.count(8));
        Check.due(name + " types nothing", x.count(9), untouched.count(9));
        Check.due(name + " leaves the text", x.fault(0), untouched.fault(0));
        boolean few = x.count(0) < 10; // with more, an object has not calls enough to be told twice
        Check.holds(name + " changes nothing", Made.whole(x).equals(Made.whole(untouched)));
        Check.due("the same states are left behind " + name, x.undo(), untouched.undo());
        if (few) {
            Check.holds(name + " leaves the history", Made.whole(x).equals(Made.whole(untouched)));
        }
    }

    @Sentence("A call that returns an error changes nothing.")
    static void invalidChangesNothing() {
        Supplier<PickSlots> from = EdgesOfErrorsTest::prepared;
        int error = Check.INVALID;
        refused("good 0 1", error, x -> x.good(0, 1), from);
        refused("good 1 201", error, x -> x.good(1, 201), from);
        refused("demand 0 4 1", error, x -> x.demand(0, 4, 1), from);
        refused("demand 0 0 1000", error, x -> x.demand(0, 0, 1000), from);
        refused("deliver 0 5001", error, x -> x.deliver(0, 5001), from);
        refused("place 3 60", error, x -> x.place(3, 60), from);
        refused("take 4", error, x -> x.take(4), from);
        refused("pick 1 201", error, x -> x.pick(1, 201), from);
        refused("pick 1 0", error, x -> x.pick(1, 0), from);
        refused("refill 4", error, x -> x.refill(4), from);
        refused("move 1 60", error, x -> x.move(1, 60), from);
        refused("exchange 1 1", error, x -> x.exchange(1, 1), from);
        refused("improve 11", error, x -> x.improve(11), from);
        refused("improve 0", error, x -> x.improve(0), from);
        refused("set 3 0", error, x -> x.set(3, 0), from);
        refused("set 1 0", error, x -> x.set(1, 0), from);
        refused("type 31", error, x -> x.type(31), from);
        refused("goodOf 0 12", error, x -> x.goodOf(0, 12), from);
        refused("slotOf 60 0", error, x -> x.slotOf(60, 0), from);
        refused("nearest 4", error, x -> x.nearest(4), from);
        refused("worth 1 60 0", error, x -> x.worth(1, 60, 0), from);
        refused("best 3", error, x -> x.best(3), from);
        refused("weekly 4", error, x -> x.weekly(4), from);
        refused("atBest 4", error, x -> x.atBest(4), from);
        refused("account 8", error, x -> x.account(8), from);
        refused("count 10", error, x -> x.count(10), from);
        refused("fault 2", error, x -> x.fault(2), () -> preparedWith("p1,1;w;"));
    }

    @Sentence("A call that returns an error changes nothing.")
    static void notPossibleChangesNothing() {
        Supplier<PickSlots> from = EdgesOfErrorsTest::prepared;
        int error = Check.IMPOSSIBLE;
        refused("place: in a slot", error, x -> x.place(1, 2), from);
        refused("place: has a good", error, x -> x.place(3, 58), from);
        refused("take: in no slot", error, x -> x.take(3), from);
        refused("pick: in no slot", error, x -> x.pick(3, 1), from);
        refused("pick: more than a refill brings", error, x -> x.pick(1, 11), from);
        refused("refill: none in the store", error, x -> x.refill(2), from);
        refused("refill: in no slot", error, x -> x.refill(3), from);
        refused("move: in no slot", error, x -> x.move(3, 1), from);
        refused("move: has a good", error, x -> x.move(1, 57), from);
        refused("move: too heavy", error, x -> x.move(0, 1), from);
        refused("exchange: in no slot", error, x -> x.exchange(1, 3), from);
        refused("exchange: too heavy", error, x -> x.exchange(1, 0), from);
        refused("worth: in this one", error, x -> x.worth(1, 58, 0), from);
        refused("undo: none", error, PickSlots::undo, PickSlots::new);
        refused("play: a fault of form", error, PickSlots::play, () -> preparedWith("p1,1;m1,9;w;w"));
        refused("play: no such good", error, PickSlots::play, () -> preparedWith("p1,1;m1,9;w;r4;"));
        refused("play: not possible", error, PickSlots::play, () -> preparedWith("p1,1;r0;m1,9;x1,2;w;m1,9;m1,57;"));
    }

    @Sentence("A call that returns an error changes nothing.")
    static void limitReachedChangesNothing() {
        refused("the 21st good", Check.LIMIT, x -> x.good(1, 1), () -> Made.light(20));
        refused("the 100001st unit", Check.LIMIT, x -> x.deliver(1, 1), EdgesOfErrorsTest::withAFullStore);
        refused("the 1001st week", Check.LIMIT, PickSlots::endWeek, EdgesOfErrorsTest::inTheLastWeek);
        refused("the 61st character", Check.LIMIT, x -> x.type('w'), () -> preparedWith("w;".repeat(30)));
    }

    private static PickSlots withAFullStore() {
        PickSlots x = Made.light(2);
        Made.fillStore(x, 1);
        return x;
    }

    private static PickSlots inTheLastWeek() {
        PickSlots x = Made.placed(1, 1, 59);
        Made.endWeeks(x, 1000);
        x.demand(0, 0, 100);
        return x;
    }

    @Sentence("A call that returns an error changes nothing.")
    static void notFoundChangesNothing() {
        Supplier<PickSlots> from = () -> {
            PickSlots x = Made.placed(31, 1, 0);
            x.good(1, 1);
            return x;
        };
        refused("improve", Check.MISSING, x -> x.improve(10), from);
        refused("best", Check.MISSING, x -> x.best(0), from);
        refused("goodOf", Check.MISSING, x -> x.goodOf(1, 6), from);
        refused("slotOf", Check.MISSING, x -> x.slotOf(1, 0), from);
        refused("fault", Check.MISSING, x -> x.fault(0), () -> preparedWith("p1,1;m1,9;w;"));
        refused("fault of none", Check.MISSING, x -> x.fault(1), from);
    }

    // ---- How long an object is used

    @Sentence("An object is used for at most 512 calls after it has been made")
    static void the512thCallIsAnswered() {
        PickSlots x = new PickSlots();
        for (int call = 1; call <= 512; call++) {
            Check.due("call " + call, x.endWeek(), call);
        }
        PickSlots y = Made.light(20);
        for (int call = 21; call <= 512; call++) {
            Check.due("call " + call, y.set(1, 1 + call % 2), call == 21 ? 60 : 2 - call % 2);
        }
    }
}
