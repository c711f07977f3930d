import java.util.List;

/** Promises 12 to 14, and the terms that they rest on: take, restore, undo. */
public final class SnapshotsTest {
    private static final int MIN = Integer.MIN_VALUE;
    private static final int MAX = Integer.MAX_VALUE;

    public static void main(String[] args) {
        Sentences.run(SnapshotsTest.class);
    }

    /** Umbrellas at every place, loans with showers, fees, another rate, other rooms, other stands of persons. */
    private static RibbedLoans busy() {
        RibbedLoans x = Town.worn(0, 40, 50, 60, 5, 6, 7, 8);
        Town.bringBroken(x, 0);
        x.mend(3);
        x.load(1, 0, 1);
        x.borrow(8, 0);
        x.hour(6, 2);
        x.set(8, 3);
        x.set(6, 4);
        return x;
    }

    /** Changes everything that can be changed in the busy city. */
    private static void change(RibbedLoans x) {
        x.set(8, 5);
        x.set(5, 3);
        x.hour(9, 3);
        x.bringBack(8, 5);
        x.bringBack(0, 6);
        x.load(0, 5, 1);
        x.unload(1, 6, 1);
        x.buy(6, 2);
        x.level();
        x.hour(1, 1);
    }

    // ---- terms

    @Says(words = "There are two slots for snapshots")
    static void twoSlots(Check c) {
        RibbedLoans x = new RibbedLoans();
        x.take(0);
        x.hour(0, 0);
        x.take(1);
        x.hour(0, 0);
        c.due("slot 0", x.restore(0), 0);
        c.due("slot 1", x.restore(1), 1);
        c.due("snapshots", x.count(15), 2);
        c.invalid("slot 2", x, () -> x.take(2));
    }

    @Says(words = "two slots for snapshots, empty at first.")
    static void slotsAreEmptyAtFirst(Check c) {
        RibbedLoans x = new RibbedLoans();
        c.due("snapshots", x.count(15), 0);
        c.illegal("slot 0", x, () -> x.restore(0));
        c.illegal("slot 1", x, () -> x.restore(1));
        x.take(1);
        c.illegal("slot 0 still", x, () -> x.restore(0));
    }

    @Says(words = "A snapshot keeps everything but the text, the slots and the history.")
    static void aSnapshotKeepsAllButThree(Check c) {
        for (int slot = 0; slot < 2; slot++) {
            RibbedLoans x = busy();
            List<Integer> then = Check.lookAtCity(x);
            x.take(slot);
            x.take(1 - slot);
            change(x);
            x.take(1 - slot);
            Town.write(x, "h0,0");
            List<Integer> later = Check.lookAtCity(x);
            c.holds("much has changed", !later.equals(then));
            x.restore(slot);
            c.holds("everything is as it was", Check.lookAtCity(x).equals(then));
            c.due("the text stays", x.count(17), 4);
            c.due("and what it says", x.carryOut(), 1);
            x.restore(1 - slot);
            c.holds("the other slot stays", Check.lookAtCity(x).equals(later));
            c.due("the history stays", x.count(16), 5);
        }
    }

    @Says(words = "To restore it makes all this as it was.")
    static void restoredAsItWas(Check c) {
        RibbedLoans x = busy();
        RibbedLoans y = busy();
        x.take(0);
        change(x);
        x.restore(0);
        // What follows must go alike, too, not only what can be looked at.
        change(x);
        change(y);
        c.holds("it goes on as if nothing had been", Check.lookAtCity(x).equals(Check.lookAtCity(y)));
    }

    @Says(words = "A history of at most 5 states is kept")
    static void fiveStates(Check c) {
        RibbedLoans x = new RibbedLoans();
        for (int i = 0; i < 12; i++) {
            c.due("states", x.count(16), Math.min(5, i));
            x.hour(0, 0);
        }
        for (int left = 4; left >= 0; left--) {
            c.due("undo", x.undo(), left);
            c.due("hour", x.count(0), 7 + left);
        }
        c.illegal("a sixth one", x, x::undo);
    }

    @Says(words = "a state is everything but the text and the history (the slots belong to it).")
    static void theSlotsBelongToAState(Check c) {
        for (int slot = 0; slot < 2; slot++) {
            int s = slot;
            RibbedLoans x = new RibbedLoans();
            x.hour(0, 0);
            x.take(s);
            x.hour(0, 0);
            x.take(s);
            Town.write(x, "l");
            x.undo();
            c.due("the snapshot before", x.restore(s), 1);
            c.due("the hour then", x.count(0), 1);
            x.undo();
            x.undo();
            x.undo();
            c.due("no snapshot", x.count(15), 0);
            c.illegal("the slot is empty again", x, () -> x.restore(s));
            c.due("the text is no part of it", x.count(17), 1);
            c.due("nor the history", x.count(16), 1);
        }
    }

    @Says(words = "Every successful call of a method that is called an action records the state before it"
        + " (also if nothing changes by it)")
    static void everyActionRecords(Check c) {
        RibbedLoans x = new RibbedLoans();
        x.level();
        c.due("a levelling of nothing", x.count(16), 1);
        x.set(0, 8);
        c.due("the same room", x.count(16), 2);
        x.take(0);
        x.take(0);
        c.due("the same snapshot", x.count(16), 4);
        x.restore(0);
        c.due("the same city", x.count(16), 5);
        onlyActionsRecord(c);
    }

    private static void onlyActionsRecord(Check c) {
        RibbedLoans x = new RibbedLoans();
        c.exceeded("a refused call", x, () -> x.buy(0, 9));
        c.keeps("a text with a fault", x, x::carryOut, -1000);
        x.append('l');
        x.clearText();
        x.feeIn(0, 0, 0);
        x.breaksIn(0, 0, 0);
        x.emptied();
        x.shortest(0);
        c.due("what is no action records nothing", x.count(16), 0);
        c.illegal("nor does undo", x, x::undo);
    }

    @Says(words = "when a sixth one is recorded, the oldest one is dropped.")
    static void theOldestIsDropped(Check c) {
        RibbedLoans x = new RibbedLoans();
        for (int room = 1; room <= 6; room++) {
            x.set(0, room);
        }
        x.undo();
        x.undo();
        x.set(0, 15);
        x.set(0, 16);
        x.set(0, 17);
        int[] want = {16, 15, 4, 3, 2};
        for (int i = 0; i < want.length; i++) {
            c.due("undo", x.undo(), 4 - i);
            c.due("room", x.stand(0, 0), want[i]);
        }
        c.illegal("older ones are gone", x, x::undo);
    }

    @Says(words = "undo() removes the latest state from the history and restores it.")
    static void undoIsNoAction(Check c) {
        RibbedLoans x = new RibbedLoans();
        x.set(0, 3);
        x.set(0, 4);
        x.undo();
        c.due("the latest", x.stand(0, 0), 3);
        c.due("removed, and none is recorded", x.count(16), 1);
        x.undo();
        c.due("the one before", x.stand(0, 0), 8);
        c.due("the history is empty", x.count(16), 0);
    }

    // ---- take

    @Says(promise = 12, words = "Takes a snapshot, in place of one that is there.")
    static void takeInPlace(Check c) {
        RibbedLoans x = new RibbedLoans();
        x.take(1);
        x.hour(0, 0);
        x.set(8, 2);
        x.take(1);
        x.hour(0, 0);
        x.set(8, 3);
        c.due("still one", x.count(15), 1);
        c.due("the new one", x.restore(1), 1);
        c.due("with all of it", x.count(14), 2);
    }

    @Says(promise = 12, words = "This is an action.")
    static void takeIsAnAction(Check c) {
        RibbedLoans x = new RibbedLoans();
        c.isAction("take(0)", x, () -> x.take(0));
        x.take(1);
        c.isAction("take(1) in place", x, () -> x.take(1));
    }

    @Says(promise = 12, words = {"`slot`: 0 or 1", "INVALID_ARGUMENT if slot is out of range."})
    static void takeSlots(Check c) {
        RibbedLoans x = new RibbedLoans();
        for (int slot : new int[] {-1, 2, MIN, MAX}) {
            c.invalid("slot " + slot, x, () -> x.take(slot));
        }
        c.due("slot 0", x.take(0), 0);
        c.due("slot 1", x.take(1), 0);
        c.due("snapshots", x.count(15), 2);
        c.invalid("slot 2", x, () -> x.take(2));
    }

    @Says(promise = 12, words = "Returns the present hour")
    static void takeReturnsTheHour(Check c) {
        RibbedLoans x = new RibbedLoans();
        c.due("at 0", x.take(0), 0);
        x.hour(0, 0);
        c.due("at 1", x.take(0), 1);
        Town.waitUntil(x, 500);
        c.due("at 500", x.take(0), 500);
    }

    // ---- restore

    @Says(promise = 13, words = "Restores a snapshot")
    static void restoreRestores(Check c) {
        RibbedLoans x = busy();
        List<Integer> then = Check.lookAtCity(x);
        x.take(0);
        change(x);
        x.restore(0);
        c.holds("as it was", Check.lookAtCity(x).equals(then));
    }

    @Says(promise = 13, words = ", which stays.")
    static void restoreLeavesTheSnapshot(Check c) {
        RibbedLoans x = busy();
        List<Integer> then = Check.lookAtCity(x);
        x.take(0);
        for (int round = 0; round < 3; round++) {
            change(x);
            x.restore(0);
            c.holds("round " + round, Check.lookAtCity(x).equals(then));
            c.due("snapshots", x.count(15), 1);
        }
    }

    @Says(promise = 13, words = "This is an action.")
    static void restoreIsAnAction(Check c) {
        RibbedLoans x = busy();
        x.take(0);
        c.isAction("restore(0), which changes nothing", x, () -> x.restore(0));
        change(x);
        c.isAction("restore(0)", x, () -> x.restore(0));
    }

    @Says(promise = 13, words = {"`slot`: 0 or 1", "INVALID_ARGUMENT if slot is out of range"})
    static void restoreSlots(Check c) {
        RibbedLoans x = new RibbedLoans();
        x.take(0);
        x.take(1);
        for (int slot : new int[] {-1, 2, MIN, MAX}) {
            c.invalid("slot " + slot, x, () -> x.restore(slot));
        }
        c.due("slot 0", x.restore(0), 0);
        c.due("slot 1", x.restore(1), 0);
    }

    @Says(promise = 13, words = "Returns the present hour then")
    static void restoreReturnsTheHourThen(Check c) {
        RibbedLoans x = new RibbedLoans();
        x.hour(0, 0);
        x.take(0);
        x.hour(0, 0);
        x.take(1);
        x.hour(0, 0);
        c.due("slot 0", x.restore(0), 1);
        c.due("present hour", x.count(0), 1);
        c.due("slot 1", x.restore(1), 2);
        c.due("present hour", x.count(0), 2);
    }

    @Says(promise = 13, words = "ILLEGAL_STATE if the slot is empty.")
    static void restoreNeedsASnapshot(Check c) {
        RibbedLoans x = new RibbedLoans();
        c.illegal("slot 0", x, () -> x.restore(0));
        x.take(0);
        c.illegal("slot 1", x, () -> x.restore(1));
        c.due("slot 0", x.restore(0), 0);
        x.undo();
        x.undo();
        c.illegal("slot 0 after undo", x, () -> x.restore(0));
    }

    // ---- undo

    @Says(promise = 14, words = "Removes the latest state from the history and restores it.")
    static void undoRestoresTheLatest(Check c) {
        RibbedLoans x = busy();
        List<Integer> then = Check.lookAtCity(x);
        x.hour(9, 3);
        c.due("undo", x.undo(), 4);
        c.holds("as it was", Check.lookAtCity(x).equals(then));
        x.bringBack(8, 7);
        x.take(1);
        x.unload(1, 7, 1);
        x.undo();
        x.undo();
        x.undo();
        c.holds("as it was again", Check.lookAtCity(x).equals(then));
        c.due("snapshots", x.count(15), 0);
    }

    @Says(promise = 14, words = "Returns the number of states that are left in the history")
    static void undoReturnsWhatIsLeft(Check c) {
        RibbedLoans x = new RibbedLoans();
        for (int i = 0; i < 6; i++) {
            x.level();
        }
        for (int left = 4; left >= 0; left--) {
            c.due("undo", x.undo(), left);
            c.due("states", x.count(16), left);
        }
    }

    @Says(promise = 14, words = "ILLEGAL_STATE if it is empty.")
    static void undoNeedsAState(Check c) {
        RibbedLoans x = new RibbedLoans();
        c.illegal("a new object", x, x::undo);
        x.level();
        c.due("one state", x.undo(), 0);
        c.illegal("none is left", x, x::undo);
        x.level();
        c.due("one anew", x.undo(), 0);
    }
}
