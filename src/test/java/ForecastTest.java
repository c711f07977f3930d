/** Promises 23 to 26: feeIn, breaksIn, emptied, shortest. */
public final class ForecastTest {
    private static final Check CHECK = new Check();

    public static void main(String[] args) {
        promise23();
        promise24();
        promise25();
        promise26();
        beyondTheLastHour();
        CHECK.end("ForecastTest");
    }

    private static void promise23() {
        RibbedLoans x = new RibbedLoans();
        x.buy(1, 1);
        CHECK.due("23: none in hand", x.feeIn(4, 0, 0), RibbedLoans.ILLEGAL_STATE);
        x.borrow(4, 1);
        x.hour(2, 3);
        CHECK.due("23: now", x.feeIn(4, 0, 9), 1);
        CHECK.due("23: showers", x.feeIn(4, 3, 2), 4);
        CHECK.due("23: no showers", x.feeIn(4, 3, 1), 1);
        CHECK.due("23: just whole", x.feeIn(4, 15, 1), 1);
        CHECK.due("23: just broken", x.feeIn(4, 16, 1), 5);
        CHECK.due("23: no rain", x.feeIn(4, 50, 0), 1);
        CHECK.due("23: at most", x.feeIn(4, 50, 9), 10);
        x.set(8, 0);
        CHECK.due("23: the rate now", x.feeIn(4, 50, 9), 4);
        CHECK.due("23: two hours of 9", x.feeIn(4, 2, 9), 4);
        CHECK.due("23: one hour of 9", x.feeIn(4, 1, 9), 0);
        int[][] wrong = {{-1, 0, 0}, {12, 0, 0}, {4, -1, 0}, {4, 51, 0}, {4, 0, -1}, {4, 0, 10}, {0, 51, 0}};
        for (int[] w : wrong) {
            CHECK.refused("23: out of range", x, () -> x.feeIn(w[0], w[1], w[2]), RibbedLoans.INVALID_ARGUMENT);
        }
        CHECK.refused("23: changes nothing", x, () -> x.feeIn(4, 20, 9), 4);
        x.buy(1, 1);
        x.borrow(11, 1);
        CHECK.due("23: the last person", x.feeIn(11, 50, 9), 4);
    }

    private static void promise24() {
        RibbedLoans x = new RibbedLoans();
        x.buy(1, 1);
        CHECK.due("24: none in hand", x.breaksIn(4, 0, 0), RibbedLoans.ILLEGAL_STATE);
        x.borrow(4, 1);
        CHECK.due("24: never", x.breaksIn(4, 0, 0), RibbedLoans.NONE);
        CHECK.due("24: slowest rain", x.breaksIn(4, 1, 0), 24);
        CHECK.due("24: slowest gusts", x.breaksIn(4, 0, 1), 16);
        CHECK.due("24: rain 4", x.breaksIn(4, 4, 0), 6);
        CHECK.due("24: worst", x.breaksIn(4, 9, 3), 3);
        CHECK.due("24: rain 2, gusts 1", x.breaksIn(4, 2, 1), 7);
        int[][] wrong = {{-1, 0, 0}, {12, 0, 0}, {4, -1, 0}, {4, 10, 0}, {4, 0, -1}, {4, 0, 4}, {0, 0, 4}};
        for (int[] w : wrong) {
            CHECK.refused("24: out of range", x, () -> x.breaksIn(w[0], w[1], w[2]), RibbedLoans.INVALID_ARGUMENT);
        }
        CHECK.refused("24: changes nothing", x, () -> x.breaksIn(4, 4, 1), 5);
        x.hour(9, 3);
        x.hour(9, 3);
        CHECK.due("24: wear 30", x.breaksIn(4, 1, 0), 1);
        CHECK.due("24: still never", x.breaksIn(4, 0, 0), RibbedLoans.NONE);
        x.hour(1, 0);
        CHECK.due("24: broken", x.breaksIn(4, 9, 3), 0);
        CHECK.due("24: broken", x.breaksIn(4, 0, 0), 0);
        x.buy(1, 1);
        x.borrow(11, 1);
        CHECK.due("24: the last person", x.breaksIn(11, 9, 3), 3);
    }

    private static void promise25() {
        RibbedLoans x = new RibbedLoans();
        CHECK.due("25: all empty", x.emptied(), 255);
        x.buy(0, 2);
        x.buy(1, 3);
        x.buy(7, 2);
        // Two persons each are at the stands 0 and 1, one is at the stand 7.
        CHECK.refused("25: 1 and 7 are left", x, x::emptied, 255 - 2 - 128);
        x.borrow(0, 7);
        CHECK.due("25: the 0 is left, the 7 is not", x.emptied(), 255 - 1 - 2);
        x.hour(9, 3);
        x.hour(9, 3);
        x.hour(9, 3);
        x.bringBack(0, 5);
        CHECK.due("25: a broken one does not count", x.emptied() >> 5 & 1, 1);
    }

    private static void promise26() {
        RibbedLoans x = new RibbedLoans();
        CHECK.due("26: smallest of those with one", x.shortest(0), 4);
        CHECK.due("26: one", x.shortest(1), 1);
        for (int stand = 4; stand < 8; stand++) {
            x.buy(stand, 1);
        }
        CHECK.due("26: two at 0", x.shortest(0), 0);
        CHECK.due("26: two", x.shortest(1), 2);
        x.buy(2, 1);
        CHECK.refused("26: the fewest", x, () -> x.shortest(0), 2);
        CHECK.refused("26: the fewest", x, () -> x.shortest(1), 1);
        x.set(2, 1);
        CHECK.due("26: whatever its room", x.shortest(0), 2);
        x.buy(2, 1);
        x.undo();
        x.set(2, 8);
        x.buy(2, 1);
        x.buy(0, 3);
        x.buy(1, 2);
        x.borrow(3, 0);
        CHECK.due("26: one has its own", x.shortest(1), 1);
        CHECK.due("26: at 3", x.shortest(0), 3);
        x.buy(3, 1);
        CHECK.due("26: no stand", x.shortest(0), RibbedLoans.NONE);
        CHECK.due("26: no number", x.shortest(1), RibbedLoans.NONE);
        for (int what : new int[] {-1, 2}) {
            CHECK.due("26: out of range", x.shortest(what), RibbedLoans.INVALID_ARGUMENT);
        }
    }

    private static void beyondTheLastHour() {
        RibbedLoans x = new RibbedLoans();
        x.buy(3, 3);
        x.borrow(0, 3);
        for (int i = 0; i < 500; i++) {
            x.hour(0, 0);
        }
        CHECK.due("23: beyond 500", x.feeIn(0, 3, 4), 3);
        CHECK.due("24: beyond 500", x.breaksIn(0, 4, 0), 6);
        CHECK.due("25: at 500", x.emptied(), 255);
        x.buy(3, 1);
        CHECK.due("25: at 500", x.emptied(), 255 - 8);
        CHECK.due("26: at 500", x.shortest(0), 0);
        CHECK.due("26: at 500", x.shortest(1), 1);
    }
}
