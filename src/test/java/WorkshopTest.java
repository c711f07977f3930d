/** Promises 7 to 11: load, unload, toWorkshop, mend, level. */
public final class WorkshopTest {
    private static final Check CHECK = new Check();

    public static void main(String[] args) {
        promise7();
        promise8();
        promise9();
        promise10();
        promise10Coins();
        promise11();
        promise11Ends();
        CHECK.end("WorkshopTest");
    }

    /** The stand 0 gets so many, of which the first ones come back broken, with the wear told in hours. */
    private static RibbedLoans withBroken(int many, int... hoursOfStorm) {
        RibbedLoans x = new RibbedLoans();
        x.set(0, 20);
        x.buy(0, many);
        for (int i = 0; i < hoursOfStorm.length; i++) {
            x.borrow(i, 0);
        }
        int longest = 0;
        for (int hours : hoursOfStorm) {
            longest = Math.max(longest, hours);
        }
        for (int hour = 0; hour <= longest; hour++) {
            for (int i = 0; i < hoursOfStorm.length; i++) {
                if (hoursOfStorm[i] == hour) {
                    x.bringBack(i, 0);
                }
            }
            x.hour(4, 3);
        }
        return x;
    }

    private static void promise7() {
        RibbedLoans x = withBroken(15, 1, 3, 3, 2);
        CHECK.due("7: wear 0", x.umbrella(0, 2), 10);
        CHECK.due("7: wear 1", x.umbrella(1, 2), 34);
        CHECK.due("7: wear 3", x.umbrella(3, 2), 20);
        CHECK.due("7: broken among", x.load(0, 0, 3), 2);
        CHECK.due("7: worst ones", x.inVan(0, 0), 1);
        CHECK.due("7: worst ones", x.inVan(0, 1), 2);
        CHECK.due("7: next worst", x.inVan(0, 2), 3);
        CHECK.due("7: place", x.umbrella(3, 0), 2);
        CHECK.due("7: which van", x.umbrella(3, 1), 0);
        CHECK.due("7: in vans", x.count(4), 3);
        CHECK.due("7: other van", x.load(1, 0, 2), 0);
        CHECK.due("7: worst of equal ones", x.inVan(1, 1), 4);
        CHECK.refused("7: van holds 10", x, () -> x.load(0, 0, 8), RibbedLoans.CAPACITY_EXCEEDED);
        CHECK.refused("7: stand has 10", x, () -> x.load(0, 1, 1), RibbedLoans.ILLEGAL_STATE);
        CHECK.due("7: full van", x.load(0, 0, 7), 0);
        CHECK.refused("7: stand before van", x, () -> x.load(0, 0, 4), RibbedLoans.ILLEGAL_STATE);
        CHECK.refused("7: full van", x, () -> x.load(0, 0, 1), RibbedLoans.CAPACITY_EXCEEDED);
        int[][] wrong = {{-1, 0, 1}, {2, 0, 1}, {1, -1, 1}, {1, 8, 1}, {1, 0, 0}, {1, 0, 11}};
        for (int[] w : wrong) {
            CHECK.refused("7: out of range", x, () -> x.load(w[0], w[1], w[2]), RibbedLoans.INVALID_ARGUMENT);
        }
        x.unload(0, 7, 8);
        x.load(0, 7, 1);
        x.load(1, 7, 7);
        x.unload(0, 7, 1);
        CHECK.due("7: 9 in the van 1", x.inVan(1, 9), RibbedLoans.NONE);
        CHECK.due("7: the tenth", x.load(1, 7, 1), 0);
        x.buy(7, 1);
        CHECK.refused("7: the van 1 is full", x, () -> x.load(1, 7, 1), RibbedLoans.CAPACITY_EXCEEDED);
    }

    private static void promise8() {
        RibbedLoans x = withBroken(7, 1, 3, 2);
        x.load(1, 0, 5);
        CHECK.refused("8: not so many whole ones", x, () -> x.unload(1, 3, 5), RibbedLoans.ILLEGAL_STATE);
        CHECK.refused("8: empty van", x, () -> x.unload(0, 3, 1), RibbedLoans.ILLEGAL_STATE);
        x.buy(3, 1);
        x.set(3, 2);
        CHECK.refused("8: room", x, () -> x.unload(1, 3, 2), RibbedLoans.CAPACITY_EXCEEDED);
        CHECK.refused("8: van before room", x, () -> x.unload(1, 3, 5), RibbedLoans.ILLEGAL_STATE);
        CHECK.due("8: left", x.unload(1, 3, 1), 4);
        CHECK.due("8: by number", x.umbrella(0, 1), 3);
        CHECK.due("8: in a stand", x.umbrella(0, 0), 0);
        CHECK.due("8: left", x.unload(1, 4, 2), 2);
        CHECK.due("8: past the broken one", x.umbrella(2, 1), 4);
        CHECK.due("8: and on", x.umbrella(3, 1), 4);
        CHECK.due("8: the broken one stays", x.inVan(1, 0), 1);
        CHECK.due("8: the last whole one", x.unload(1, 7, 1), 1);
        x.load(1, 7, 1);
        CHECK.due("8: to the stand 0", x.unload(1, 0, 1), 1);
        int[][] wrong = {{-1, 0, 1}, {2, 0, 1}, {1, -1, 1}, {1, 8, 1}, {1, 0, 0}, {1, 0, 11}};
        for (int[] w : wrong) {
            CHECK.refused("8: out of range", x, () -> x.unload(w[0], w[1], w[2]), RibbedLoans.INVALID_ARGUMENT);
        }
    }

    private static void promise9() {
        RibbedLoans x = withBroken(6, 3, 1, 4);
        x.load(0, 0, 4);
        CHECK.refused("9: the other van", x, () -> x.toWorkshop(1), RibbedLoans.ILLEGAL_STATE);
        CHECK.due("9: all broken ones", x.toWorkshop(0), 2);
        CHECK.due("9: place", x.umbrella(0, 0), 3);
        CHECK.due("9: whose", x.umbrella(0, 1), RibbedLoans.NONE);
        CHECK.due("9: whole ones stay", x.inVan(0, 0), 1);
        CHECK.due("9: in the workshop", x.count(5), 2);
        CHECK.refused("9: none", x, () -> x.toWorkshop(0), RibbedLoans.ILLEGAL_STATE);
        CHECK.refused("9: out of range", x, () -> x.toWorkshop(-1), RibbedLoans.INVALID_ARGUMENT);
        CHECK.refused("9: out of range", x, () -> x.toWorkshop(2), RibbedLoans.INVALID_ARGUMENT);
    }

    private static void promise10() {
        RibbedLoans x = withBroken(6, 5, 3, 4, 3);
        CHECK.due("10: wear 0", x.umbrella(0, 2), 62);
        CHECK.due("10: wear 1", x.umbrella(1, 2), 34);
        CHECK.due("10: wear 2", x.umbrella(2, 2), 48);
        x.load(0, 0, 2);
        x.toWorkshop(0);
        x.load(0, 0, 1);
        CHECK.due("10: 1 is worse than 3", x.inVan(0, 0), 1);
        x.toWorkshop(0);
        int house = x.count(8);
        CHECK.due("10: the smaller number is mended", x.mend(7), 1);
        CHECK.due("10: wear", x.umbrella(1, 2), 8);
        CHECK.due("10: stand", x.umbrella(1, 1), 7);
        CHECK.due("10: the other is scrapped", x.umbrella(2, 0), 4);
        CHECK.due("10: nobody's", x.umbrella(2, 1), RibbedLoans.NONE);
        CHECK.due("10: its wear stays", x.umbrella(2, 2), 48);
        CHECK.due("10: house", x.count(8), house - 3);
        CHECK.due("10: spent", x.count(10), 33);
        CHECK.due("10: scrapped", x.count(6), 1);
        CHECK.due("10: in the workshop", x.count(5), 1);
        CHECK.refused("10: one is too few", x, () -> x.mend(7), RibbedLoans.ILLEGAL_STATE);
        x.load(0, 0, 1);
        x.toWorkshop(0);
        x.set(7, 1);
        CHECK.refused("10: full", x, () -> x.mend(7), RibbedLoans.CAPACITY_EXCEEDED);
        CHECK.refused("10: out of range", x, () -> x.mend(-1), RibbedLoans.INVALID_ARGUMENT);
        CHECK.refused("10: out of range", x, () -> x.mend(8), RibbedLoans.INVALID_ARGUMENT);
        CHECK.due("10: the more worn one is mended", x.mend(6), 0);
        CHECK.due("10: by the lesser wear", x.umbrella(0, 2), 8);
        CHECK.due("10: the less worn one is scrapped", x.umbrella(3, 0), 4);
        tiesInTheWorkshop();
    }

    private static void tiesInTheWorkshop() {
        RibbedLoans x = withBroken(4, 4, 3, 3, 3);
        x.load(0, 0, 4);
        x.toWorkshop(0);
        CHECK.due("10: of several the smaller ones", x.mend(2), 1);
        CHECK.due("10: and the second", x.umbrella(2, 0), 4);
        CHECK.due("10: not the third", x.umbrella(3, 0), 3);
        CHECK.due("10: nor the more worn one", x.umbrella(0, 0), 3);
        RibbedLoans y = withBroken(3, 6, 6);
        y.load(0, 0, 2);
        y.toWorkshop(0);
        CHECK.due("10: as worn as can be", y.umbrella(0, 2), 64);
        y.set(0, 2);
        CHECK.due("10: the last place", y.mend(0), 0);
        CHECK.due("10: wear 2", y.umbrella(0, 2), 16);
        CHECK.due("10: full now", y.stand(0, 1), 2);
    }

    private static void promise10Coins() {
        RibbedLoans x = new RibbedLoans();
        x.set(8, 0);
        x.set(0, 20);
        x.buy(0, 19);
        x.borrow(0, 0);
        x.borrow(1, 0);
        for (int i = 0; i < 4; i++) {
            x.hour(4, 3);
        }
        x.bringBack(0, 0);
        x.bringBack(1, 0);
        CHECK.due("10: 4 coins each", x.count(8), 13);
        x.load(0, 0, 2);
        x.toWorkshop(0);
        x.buy(1, 1);
        x.buy(1, 1);
        CHECK.due("10: just 3", x.count(8), 3);
        CHECK.due("10: enough", x.mend(1), 0);
        CHECK.due("10: nothing left", x.count(8), 0);
        poorHouse();
    }

    /** The fees of two broken ones give 8 coins, and an umbrella costs 5. */
    private static void poorHouse() {
        RibbedLoans x = new RibbedLoans();
        x.set(8, 1);
        x.set(0, 20);
        x.buy(0, 20);
        x.borrow(0, 0);
        x.borrow(1, 0);
        for (int i = 0; i < 11; i++) {
            x.hour(1, 1);
        }
        CHECK.due("10: broken", x.count(7), 2);
        x.set(8, 0);
        x.bringBack(0, 0);
        x.bringBack(1, 0);
        x.buy(1, 1);
        x.load(1, 0, 2);
        x.toWorkshop(1);
        CHECK.due("10: 3 coins", x.count(8), 3);
        x.borrow(2, 1);
        CHECK.due("10: 13 with a deposit", x.count(8), 13);
        CHECK.due("10: 3 can be spent", x.mend(4), 0);
        CHECK.due("10: 10 left", x.count(8), 10);
        CHECK.refused("10: deposits are not spent", x, () -> x.buy(4, 1), RibbedLoans.ILLEGAL_STATE);
        noCoins();
    }

    private static void noCoins() {
        RibbedLoans x = new RibbedLoans();
        x.set(8, 0);
        x.set(0, 20);
        x.buy(0, 14);
        for (int i = 0; i < 3; i++) {
            x.borrow(i, 0);
        }
        for (int i = 0; i < 4; i++) {
            x.hour(4, 3);
        }
        for (int i = 0; i < 3; i++) {
            x.bringBack(i, 0);
        }
        CHECK.due("10: 42 coins", x.count(8), 42);
        x.load(0, 0, 3);
        x.toWorkshop(0);
        x.buy(1, 8);
        CHECK.due("10: 2 coins", x.count(8), 2);
        CHECK.refused("10: 2 are too few", x, () -> x.mend(2), RibbedLoans.ILLEGAL_STATE);
        x.borrow(4, 0);
        CHECK.refused("10: nor with a deposit", x, () -> x.mend(2), RibbedLoans.ILLEGAL_STATE);
        CHECK.refused("10: coins before room", x, () -> x.mend(1), RibbedLoans.ILLEGAL_STATE);
    }

    private static void promise11() {
        RibbedLoans x = new RibbedLoans();
        CHECK.due("11: nothing there", x.level(), 0);
        CHECK.due("11: still an action", x.count(16), 1);
        x.buy(3, 1);
        CHECK.due("11: 1 is no more than 0 by 2", x.level(), 0);
        x.buy(3, 7);
        x.set(0, 1);
        x.buy(0, 1);
        x.set(1, 1);
        CHECK.due("11: moved", x.level(), 6);
        CHECK.due("11: smallest empty stand first", x.umbrella(0, 1), 1);
        CHECK.due("11: then the next", x.umbrella(1, 1), 2);
        CHECK.due("11: and the last", x.umbrella(5, 1), 7);
        CHECK.due("11: left", x.stand(3, 1), 2);
        CHECK.due("11: again", x.level(), 0);
        ties();
    }

    /** Of two fullest ones the smaller gives, and stands without room get none. */
    private static void ties() {
        RibbedLoans x = new RibbedLoans();
        x.buy(5, 3);
        x.buy(2, 3);
        for (int stand = 0; stand < 8; stand++) {
            if (x.stand(stand, 1) == 0 && stand != 6) {
                x.buy(stand, 1);
                x.set(stand, 1);
            }
        }
        CHECK.due("11: to the 6 alone", x.level(), 2);
        CHECK.due("11: the smaller fullest first", x.umbrella(3, 1), 6);
        CHECK.due("11: then the other", x.umbrella(0, 1), 6);
        CHECK.due("11: the rest stays", x.stand(5, 1), 2);
        RibbedLoans y = new RibbedLoans();
        y.buy(4, 5);
        for (int stand = 0; stand < 8; stand++) {
            if (stand != 4) {
                y.buy(stand, 1);
                y.set(stand, 1);
            }
        }
        CHECK.due("11: no room anywhere", y.level(), 0);
        RibbedLoans z = new RibbedLoans();
        z.buy(1, 3);
        CHECK.due("11: from 1", z.level(), 2);
        CHECK.due("11: to 0", z.umbrella(0, 1), 0);
        CHECK.due("11: then to 2", z.umbrella(1, 1), 2);
    }

    private static void promise11Ends() {
        RibbedLoans x = withBroken(4, 3, 4, 3);
        CHECK.due("11: broken ones count, the best goes", x.level(), 1);
        CHECK.due("11: the whole one", x.umbrella(3, 1), 1);
        CHECK.due("11: broken ones are left", x.stand(0, 2), 3);
        CHECK.due("11: a fullest one without best ends it", x.level(), 0);
        x.buy(5, 3);
        CHECK.due("11: even if another could give", x.level(), 0);
        x.buy(5, 1);
        CHECK.due("11: a fuller one gives", x.level(), 1);
        CHECK.due("11: its best one", x.umbrella(4, 1), 2);
    }
}
