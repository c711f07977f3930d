import java.util.List;

/** Promises 12 to 14: take, restore, undo. */
public final class SnapshotsTest {
    private static final Check CHECK = new Check();

    public static void main(String[] args) {
        promise12();
        promise13();
        promise14();
        promise14Actions();
        promise14NotActions();
        promise14Slots();
        CHECK.end("SnapshotsTest");
    }

    private static RibbedLoans busyCity() {
        RibbedLoans x = new RibbedLoans();
        x.set(0, 20);
        x.buy(0, 12);
        for (int person = 0; person < 6; person++) {
            x.borrow(person, 0);
        }
        for (int i = 0; i < 4; i++) {
            x.hour(6, 3);
        }
        x.bringBack(0, 0);
        x.bringBack(1, 0);
        x.bringBack(2, 0);
        x.load(0, 0, 3);
        x.toWorkshop(0);
        x.load(1, 0, 2);
        x.mend(3);
        return x;
    }

    private static void promise12() {
        RibbedLoans x = new RibbedLoans();
        x.hour(0, 0);
        x.hour(0, 0);
        CHECK.due("12: hour", x.take(1), 2);
        CHECK.due("12: snapshots", x.count(15), 1);
        CHECK.due("12: action", x.count(16), 3);
        x.hour(0, 0);
        CHECK.due("12: in place", x.take(1), 3);
        CHECK.due("12: still one", x.count(15), 1);
        CHECK.due("12: the new one", x.restore(1), 3);
        CHECK.due("12: the other", x.take(0), 3);
        CHECK.due("12: two", x.count(15), 2);
        CHECK.refused("12: out of range", x, () -> x.take(-1), RibbedLoans.INVALID_ARGUMENT);
        CHECK.refused("12: out of range", x, () -> x.take(2), RibbedLoans.INVALID_ARGUMENT);
    }

    private static void promise13() {
        RibbedLoans x = busyCity();
        x.take(0);
        List<Integer> then = Check.lookAtCity(x);
        Check.write(x, "b1");
        x.set(8, 5);
        x.set(5, 3);
        x.hour(9, 3);
        x.bringBack(3, 5);
        x.level();
        x.buy(6, 2);
        x.unload(1, 6, 1);
        CHECK.refused("13: empty", x, () -> x.restore(1), RibbedLoans.ILLEGAL_STATE);
        CHECK.refused("13: out of range", x, () -> x.restore(-1), RibbedLoans.INVALID_ARGUMENT);
        CHECK.refused("13: out of range", x, () -> x.restore(2), RibbedLoans.INVALID_ARGUMENT);
        x.take(1);
        CHECK.due("13: hour then", x.restore(0), 4);
        CHECK.holds("13: all as it was", Check.lookAtCity(x).equals(then));
        CHECK.due("13: the text stays", x.count(17), 2);
        CHECK.due("13: the slots stay", x.count(15), 2);
        CHECK.due("13: the history stays", x.count(16), 5);
        x.hour(5, 0);
        CHECK.due("13: the snapshot stays", x.restore(0), 4);
        CHECK.holds("13: as it was once more", Check.lookAtCity(x).equals(then));
        CHECK.due("13: the other one", x.restore(1), 5);
    }

    private static void promise14() {
        RibbedLoans x = new RibbedLoans();
        CHECK.refused("14: empty", x, x::undo, RibbedLoans.ILLEGAL_STATE);
        for (int i = 0; i < 7; i++) {
            x.hour(0, 0);
        }
        CHECK.due("14: at most 5", x.count(16), 5);
        for (int i = 4; i >= 0; i--) {
            CHECK.due("14: left", x.undo(), i);
            CHECK.due("14: hour", x.count(0), i + 2);
        }
        CHECK.refused("14: empty again", x, x::undo, RibbedLoans.ILLEGAL_STATE);
        x.hour(0, 0);
        CHECK.due("14: recorded anew", x.undo(), 0);
        CHECK.due("14: hour", x.count(0), 2);
    }

    /** The history is full before; undo brings back just the state before the action, or it was not recorded. */
    private static void promise14Actions() {
        String[] names = {"buy", "set", "borrow", "bringBack", "hour", "load", "unload", "toWorkshop", "mend",
            "level", "take", "restore", "carryOut"};
        for (int which = 0; which < names.length; which++) {
            RibbedLoans x = readyFor(which, busyCity());
            List<Integer> before = Check.lookAtCity(x);
            int slots = x.count(15);
            CHECK.holds("14: " + names[which] + " succeeds", act(which, x) >= 0);
            CHECK.due("14: " + names[which] + " recorded", x.count(16), 5);
            CHECK.due("14: " + names[which] + " undone", x.undo(), 4);
            CHECK.holds("14: " + names[which] + " as before", Check.lookAtCity(x).equals(before));
            CHECK.due("14: " + names[which] + " slots as before", x.count(15), slots);
        }
    }

    /** The city, led on so that the action is possible; the last action here changes something. */
    private static RibbedLoans readyFor(int which, RibbedLoans x) {
        x.load(1, 0, 2);
        if (which == 7) {
            x.bringBack(3, 0);
            x.load(0, 0, 1);
        }
        if (which == 8) {
            x.bringBack(3, 0);
            x.bringBack(4, 0);
            x.load(0, 0, 2);
            x.toWorkshop(0);
        }
        if (which == 11) {
            x.take(1);
            x.hour(3, 1);
        }
        if (which == 12) {
            Check.write(x, "h3,1;h9,3");
        }
        return x;
    }

    private static int act(int which, RibbedLoans x) {
        switch (which) {
            case 0: return x.buy(6, 1);
            case 1: return x.set(6, x.stand(6, 0));
            case 2: return x.borrow(11, 0);
            case 3: return x.bringBack(4, 7);
            case 4: return x.hour(7, 2);
            case 5: return x.load(0, 0, 1);
            case 6: return x.unload(1, 5, 1);
            case 7: return x.toWorkshop(0);
            case 8: return x.mend(6);
            case 9: return x.level();
            case 10: return x.take(0);
            case 11: return x.restore(1);
            default: return x.carryOut();
        }
    }

    private static void promise14NotActions() {
        RibbedLoans x = busyCity();
        x.undo();
        x.undo();
        x.undo();
        int states = x.count(16);
        x.append('b');
        x.carryOut();
        x.clearText();
        x.feeIn(3, 2, 5);
        x.breaksIn(3, 2, 1);
        x.emptied();
        x.shortest(0);
        x.buy(0, 0);
        x.mend(9);
        CHECK.due("14: no actions", x.count(16), states);
        Check.write(x, "l");
        x.undo();
        CHECK.due("14: the text is no part of the state", x.count(17), 1);
    }

    private static void promise14Slots() {
        RibbedLoans x = new RibbedLoans();
        x.hour(0, 0);
        x.take(0);
        x.hour(0, 0);
        x.take(0);
        x.undo();
        CHECK.due("14: the older snapshot", x.restore(0), 1);
        x.undo();
        x.undo();
        x.undo();
        CHECK.due("14: no snapshot", x.count(15), 0);
        CHECK.due("14: the slot is empty", x.restore(0), RibbedLoans.ILLEGAL_STATE);
        RibbedLoans y = new RibbedLoans();
        y.take(1);
        y.buy(2, 2);
        y.restore(1);
        CHECK.due("14: nothing bought", y.count(1), 0);
        y.undo();
        CHECK.due("14: the state before the restoring", y.count(1), 2);
        CHECK.due("14: its house", y.count(8), 90);
        y.hour(0, 0);
        y.take(1);
        y.undo();
        CHECK.due("14: the older one in the slot 1", y.restore(1), 0);
        y.undo();
        y.undo();
        y.undo();
        y.undo();
        CHECK.due("14: none in the slot 1", y.restore(1), RibbedLoans.ILLEGAL_STATE);
    }
}
