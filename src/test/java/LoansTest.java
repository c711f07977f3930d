/** Promises 1 to 6: a new object, buy, set, borrow, bringBack, hour. */
public final class LoansTest {
    private static final Check CHECK = new Check();

    public static void main(String[] args) {
        promise1();
        promise2();
        promise2HouseAndNumber();
        promise3();
        promise4();
        promise4Coins();
        promise5();
        promise5Fees();
        promise6();
        promise6Surge();
        promise6LastHour();
        CHECK.end("LoansTest");
    }

    private static void promise1() {
        RibbedLoans x = new RibbedLoans();
        for (int what = 0; what < 18; what++) {
            int want = what == 8 ? 100 : what == 9 ? 480 : what == 14 ? 1 : 0;
            CHECK.due("1: count " + what, x.count(what), want);
        }
        for (int stand = 0; stand < 8; stand++) {
            CHECK.due("1: room", x.stand(stand, 0), 8);
            CHECK.due("1: in stand", x.stand(stand, 1), 0);
        }
        for (int person = 0; person < 12; person++) {
            CHECK.due("1: coins", x.person(person, 0), 40);
            CHECK.due("1: in hand", x.person(person, 1), RibbedLoans.NONE);
            CHECK.due("1: home", x.person(person, 4), person % 8);
        }
        CHECK.due("1: umbrella 0", x.umbrella(0, 0), RibbedLoans.INVALID_ARGUMENT);
        CHECK.due("1: restore", x.restore(0), RibbedLoans.ILLEGAL_STATE);
        CHECK.due("1: undo", x.undo(), RibbedLoans.ILLEGAL_STATE);
        CHECK.due("1: clearText", x.clearText(), 0);
    }

    private static void promise2() {
        RibbedLoans x = new RibbedLoans();
        CHECK.due("2: first", x.buy(3, 2), 0);
        CHECK.due("2: second", x.buy(0, 1), 2);
        CHECK.due("2: number", x.count(1), 3);
        CHECK.due("2: house", x.count(8), 85);
        CHECK.due("2: spent", x.count(10), 15);
        CHECK.due("2: place", x.umbrella(1, 1), 3);
        CHECK.due("2: wear", x.umbrella(1, 2), 0);
        CHECK.due("2: action", x.count(16), 2);
        int[][] wrong = {{-1, 1}, {8, 1}, {0, 0}, {0, 21}, {0, -1}, {Integer.MIN_VALUE, 1}, {0, Integer.MAX_VALUE}};
        for (int[] w : wrong) {
            CHECK.refused("2: out of range", x, () -> x.buy(w[0], w[1]), RibbedLoans.INVALID_ARGUMENT);
        }
        CHECK.refused("2: room", x, () -> x.buy(3, 7), RibbedLoans.CAPACITY_EXCEEDED);
        CHECK.due("2: just room", x.buy(3, 6), 3);
        CHECK.refused("2: coins before room", x, () -> x.buy(3, 12), RibbedLoans.ILLEGAL_STATE);
        CHECK.refused("2: room though coins", x, () -> x.buy(3, 11), RibbedLoans.CAPACITY_EXCEEDED);
    }

    private static void promise2HouseAndNumber() {
        RibbedLoans x = new RibbedLoans();
        x.set(0, 20);
        x.set(8, 5);
        CHECK.due("2: most at once", x.buy(0, 20), 0);
        x.borrow(11, 0);
        CHECK.refused("2: deposits are not spent", x, () -> x.buy(1, 1), RibbedLoans.ILLEGAL_STATE);
        x.bringBack(11, 0);
        for (int round = 0; round < 4; round++) {
            payTenEach(x);
        }
        CHECK.due("2: house with fees", x.count(8), 480);
        x.set(1, 20);
        x.set(2, 20);
        CHECK.due("2: to 40", x.buy(1, 20), 20);
        CHECK.due("2: to 59", x.buy(2, 19), 40);
        CHECK.refused("2: 61 umbrellas", x, () -> x.buy(3, 2), RibbedLoans.CAPACITY_EXCEEDED);
        CHECK.due("2: the 60th", x.buy(3, 1), 59);
        CHECK.refused("2: a 61st", x, () -> x.buy(3, 1), RibbedLoans.CAPACITY_EXCEEDED);
        CHECK.due("2: 60", x.count(1), 60);
    }

    /** Each person borrows at the stand 0, pays the dearest fee, and brings back there. */
    private static void payTenEach(RibbedLoans x) {
        for (int person = 0; person < 12; person++) {
            x.borrow(person, 0);
        }
        x.hour(2, 0);
        x.hour(2, 0);
        for (int person = 0; person < 12; person++) {
            CHECK.due("2: fee", x.bringBack(person, 0), 10);
        }
    }

    private static void promise3() {
        RibbedLoans x = new RibbedLoans();
        x.buy(2, 5);
        CHECK.due("3: room", x.set(2, 5), 8);
        CHECK.due("3: full", x.bringBack(0, 2), RibbedLoans.ILLEGAL_STATE);
        CHECK.due("3: same again", x.set(2, 5), 5);
        CHECK.due("3: counted as action", x.count(16), 3);
        CHECK.refused("3: below", x, () -> x.set(2, 4), RibbedLoans.ILLEGAL_STATE);
        CHECK.due("3: least", x.set(7, 1), 8);
        CHECK.due("3: most", x.set(7, 20), 1);
        CHECK.due("3: rate", x.set(8, 5), 1);
        CHECK.due("3: rate 0", x.set(8, 0), 5);
        CHECK.due("3: rate told", x.count(14), 0);
        int[][] wrong = {{-1, 3}, {9, 3}, {0, 0}, {0, 21}, {7, -1}, {8, -1}, {8, 6}, {2, 0}};
        for (int[] w : wrong) {
            CHECK.refused("3: out of range", x, () -> x.set(w[0], w[1]), RibbedLoans.INVALID_ARGUMENT);
        }
    }

    private static void promise4() {
        RibbedLoans x = new RibbedLoans();
        x.buy(4, 3);
        CHECK.due("4: smallest of equal ones", x.borrow(0, 4), 0);
        CHECK.due("4: coins", x.person(0, 0), 30);
        CHECK.due("4: house", x.count(8), 95);
        CHECK.due("4: loans", x.count(12), 1);
        CHECK.due("4: lent", x.umbrella(0, 4), 1);
        CHECK.due("4: place", x.umbrella(0, 0), 1);
        CHECK.due("4: owner", x.umbrella(0, 1), 0);
        CHECK.due("4: home stays", x.person(0, 4), 0);
        CHECK.refused("4: one in hand", x, () -> x.borrow(0, 4), RibbedLoans.ILLEGAL_STATE);
        CHECK.refused("4: empty stand", x, () -> x.borrow(1, 5), RibbedLoans.ILLEGAL_STATE);
        int[][] wrong = {{-1, 4}, {12, 4}, {1, -1}, {1, 8}, {0, 8}};
        for (int[] w : wrong) {
            CHECK.refused("4: out of range", x, () -> x.borrow(w[0], w[1]), RibbedLoans.INVALID_ARGUMENT);
        }
        x.hour(3, 0);
        x.bringBack(0, 4);
        CHECK.due("4: least worn", x.borrow(11, 4), 1);
        CHECK.due("4: least worn", x.borrow(10, 4), 2);
        CHECK.due("4: more worn", x.borrow(9, 4), 0);
        for (int i = 0; i < 3; i++) {
            x.hour(9, 3);
        }
        x.bringBack(9, 4);
        CHECK.due("4: broken", x.umbrella(0, 3), 1);
        CHECK.refused("4: none but broken ones", x, () -> x.borrow(1, 4), RibbedLoans.ILLEGAL_STATE);
    }

    private static void promise4Coins() {
        RibbedLoans x = new RibbedLoans();
        x.buy(0, 1);
        x.set(8, 5);
        for (int round = 0; round < 3; round++) {
            x.borrow(8, 0);
            x.hour(2, 0);
            x.hour(2, 0);
            x.bringBack(8, 0);
        }
        CHECK.due("4: 10 coins", x.person(8, 0), 10);
        CHECK.due("4: 10 are enough", x.borrow(8, 0), 0);
        CHECK.due("4: none left", x.person(8, 0), 0);
        x.hour(2, 0);
        x.bringBack(8, 0);
        CHECK.due("4: 5 coins", x.person(8, 0), 5);
        CHECK.refused("4: 5 are too few", x, () -> x.borrow(8, 0), RibbedLoans.ILLEGAL_STATE);
    }

    private static void promise5() {
        RibbedLoans x = new RibbedLoans();
        x.buy(0, 2);
        CHECK.refused("5: none in hand", x, () -> x.bringBack(3, 0), RibbedLoans.ILLEGAL_STATE);
        x.borrow(3, 0);
        x.hour(2, 0);
        x.hour(1, 3);
        int[][] wrong = {{-1, 0}, {12, 0}, {3, -1}, {3, 8}};
        for (int[] w : wrong) {
            CHECK.refused("5: out of range", x, () -> x.bringBack(w[0], w[1]), RibbedLoans.INVALID_ARGUMENT);
        }
        x.set(0, 1);
        CHECK.refused("5: full", x, () -> x.bringBack(3, 0), RibbedLoans.CAPACITY_EXCEEDED);
        CHECK.refused("5: none in hand before full", x, () -> x.bringBack(4, 0), RibbedLoans.ILLEGAL_STATE);
        CHECK.due("5: fee", x.bringBack(3, 6), 1);
        CHECK.due("5: coins", x.person(3, 0), 39);
        CHECK.due("5: house", x.count(8), 91);
        CHECK.due("5: fees", x.count(11), 1);
        CHECK.due("5: own fees", x.person(3, 5), 1);
        CHECK.due("5: home", x.person(3, 4), 6);
        CHECK.due("5: place", x.umbrella(0, 1), 6);
        CHECK.due("5: no showers without a loan", x.person(3, 2), 0);
        x.borrow(3, 6);
        CHECK.due("5: a loan anew", x.bringBack(3, 6), 0);
    }

    private static void promise5Fees() {
        RibbedLoans x = new RibbedLoans();
        x.buy(0, 2);
        x.borrow(0, 0);
        for (int i = 0; i < 4; i++) {
            x.hour(1, 3);
        }
        CHECK.due("5: wear", x.umbrella(0, 2), 29);
        x.hour(0, 1);
        x.hour(0, 1);
        CHECK.due("5: broken", x.person(0, 3), 1);
        x.set(8, 0);
        CHECK.due("5: only for breaking", x.feeIn(0, 0, 0), 4);
        x.hour(2, 0);
        x.set(8, 5);
        CHECK.due("5: the rate of then", x.feeIn(0, 0, 0), 9);
        x.set(8, 3);
        x.hour(4, 0);
        CHECK.due("5: just 10", x.feeIn(0, 0, 0), 10);
        x.hour(4, 0);
        CHECK.due("5: at most 10", x.bringBack(0, 0), 10);
        CHECK.due("5: coins", x.person(0, 0), 30);
        CHECK.due("5: not broken without a loan", x.person(0, 3), 0);
        CHECK.due("5: fees", x.count(11), 10);
    }

    private static void promise6() {
        RibbedLoans x = new RibbedLoans();
        x.buy(0, 3);
        x.borrow(0, 0);
        CHECK.due("6: none breaks", x.hour(1, 0), 0);
        CHECK.due("6: hour", x.count(0), 1);
        CHECK.due("6: no shower", x.person(0, 2), 0);
        CHECK.due("6: wear", x.umbrella(0, 2), 1);
        CHECK.due("6: wear in the stand", x.umbrella(1, 2), 0);
        x.hour(4, 3);
        CHECK.due("6: gusts", x.umbrella(0, 2), 11);
        CHECK.due("6: shower", x.person(0, 2), 1);
        x.hour(4, 0);
        CHECK.due("6: below 2", x.umbrella(0, 2), 15);
        x.hour(4, 0);
        CHECK.due("6: below 2 before", x.umbrella(0, 2), 19);
        x.hour(4, 1);
        CHECK.due("6: as much again", x.umbrella(0, 2), 29);
        x.borrow(1, 0);
        CHECK.due("6: one breaks", x.hour(2, 0), 1);
        CHECK.due("6: broken only once", x.hour(2, 0), 0);
        for (int i = 0; i < 6; i++) {
            x.hour(4, 3);
        }
        CHECK.due("6: at most 8", x.umbrella(0, 2), 64);
        CHECK.due("6: no surge", x.count(13), 0);
        int[][] wrong = {{-1, 0}, {10, 0}, {0, -1}, {0, 4}};
        for (int[] w : wrong) {
            CHECK.refused("6: out of range", x, () -> x.hour(w[0], w[1]), RibbedLoans.INVALID_ARGUMENT);
        }
        twoTurnTwo();
    }

    /** Wear 2 counts as not below 2, and wear 4 as broken. */
    private static void twoTurnTwo() {
        RibbedLoans x = new RibbedLoans();
        x.buy(0, 1);
        x.borrow(0, 0);
        for (int i = 0; i < 4; i++) {
            x.hour(4, 0);
        }
        CHECK.due("6: wear 2", x.umbrella(0, 2), 16);
        x.hour(4, 0);
        CHECK.due("6: twice from 2 on", x.umbrella(0, 2), 24);
        CHECK.due("6: breaks at 4", x.hour(4, 0), 1);
        CHECK.due("6: wear 4", x.umbrella(0, 2), 32);
        CHECK.due("6: broken at 4", x.umbrella(0, 3), 1);
        CHECK.due("6: broken before", x.hour(1, 0), 0);
        x.undo();
        x.bringBack(0, 0);
        CHECK.refused("6: wear 4 is not lent", x, () -> x.borrow(0, 0), RibbedLoans.ILLEGAL_STATE);
        RibbedLoans y = new RibbedLoans();
        y.buy(0, 1);
        y.borrow(0, 0);
        y.hour(9, 3);
        y.hour(8, 3);
        y.hour(1, 0);
        CHECK.due("6: wear 31 eighths", y.umbrella(0, 2), 31);
        y.bringBack(0, 0);
        CHECK.due("6: is lent", y.borrow(1, 0), 0);
    }

    private static void promise6Surge() {
        RibbedLoans x = new RibbedLoans();
        x.buy(1, 1);
        x.buy(2, 3);
        x.borrow(2, 2);
        x.buy(0, 2);
        CHECK.due("6: surge", x.hour(5, 3), 0);
        CHECK.due("6: person 0", x.person(0, 1), 4);
        CHECK.due("6: surges", x.count(13), 1);
        CHECK.due("6: first person first", x.person(1, 1), 0);
        CHECK.due("6: none left", x.person(9, 1), RibbedLoans.NONE);
        CHECK.due("6: has one", x.person(2, 1), 1);
        CHECK.due("6: home of 10", x.person(10, 1), 2);
        CHECK.due("6: loans", x.count(12), 5);
        CHECK.due("6: deposits", x.count(8), 120);
        CHECK.due("6: lent after the wear", x.umbrella(2, 2), 0);
        CHECK.due("6: no shower at its begin", x.person(10, 2), 0);
        CHECK.due("6: shower of the loan before", x.person(2, 2), 1);
        x.bringBack(1, 5);
        x.hour(5, 0);
        CHECK.due("6: at the stand brought back to", x.person(1, 1), 0);
        CHECK.due("6: surges", x.count(13), 2);
        x.hour(4, 0);
        CHECK.due("6: rain 4 is none", x.count(13), 2);
        surgeNeedsCoins();
    }

    private static void surgeNeedsCoins() {
        RibbedLoans x = new RibbedLoans();
        x.buy(3, 1);
        x.set(8, 5);
        for (int round = 0; round < 4; round++) {
            x.borrow(3, 3);
            x.hour(2, 0);
            if (round < 3) {
                x.hour(2, 0);
            }
            x.bringBack(3, 3);
        }
        CHECK.due("6: 5 coins", x.person(3, 0), 5);
        x.hour(9, 0);
        CHECK.due("6: too few coins", x.person(3, 1), RibbedLoans.NONE);
        CHECK.due("6: the next one", x.person(11, 1), 0);
    }

    private static void promise6LastHour() {
        RibbedLoans x = new RibbedLoans();
        for (int i = 0; i < 500; i++) {
            CHECK.due("6: hour", x.hour(i % 2, 0), 0);
        }
        CHECK.due("6: 500", x.count(0), 500);
        CHECK.refused("6: the last hour", x, () -> x.hour(0, 0), RibbedLoans.CAPACITY_EXCEEDED);
        CHECK.refused("6: range first", x, () -> x.hour(10, 0), RibbedLoans.INVALID_ARGUMENT);
    }
}
