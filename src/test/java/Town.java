/** Cities for the tests to begin with, made by calls alone. */
final class Town {
    private Town() {
    }

    /**
     * A city with one umbrella for each wear that is told (in eighths, at most twelve), all in one stand with room 20,
     * numbered as told. No shower and no surge has been; who wore one down to 32 or more has paid 4 coins.
     */
    static RibbedLoans worn(int stand, int... wears) {
        RibbedLoans x = new RibbedLoans();
        x.set(stand, 20);
        x.buy(stand, wears.length);
        for (int u = 0; u < wears.length; u++) {
            x.borrow(u, stand);
        }
        // A rain of 1 wears by one eighth, a gust by two: the odd ones get their eighth first.
        for (int u = 0; u < wears.length; u++) {
            if (wears[u] % 2 == 0) {
                x.bringBack(u, stand);
            }
        }
        x.hour(1, 0);
        for (int u = 0; u < wears.length; u++) {
            if (wears[u] % 2 == 0) {
                x.borrow(u, stand);
            }
        }
        for (int wear = 0; wear <= 64; wear++) {
            for (int u = 0; u < wears.length; u++) {
                if (wears[u] == wear) {
                    x.bringBack(u, stand);
                }
            }
            if (wear % 2 == 1) {
                x.hour(0, 1);
            }
        }
        return x;
    }

    /** The person pays so many coins in fees, with the best umbrella of the stand; the rate is 1 again then. */
    static void pay(RibbedLoans x, int person, int stand, int coins) {
        for (int left = coins; left > 0; left -= 5) {
            x.set(8, Math.min(5, left));
            x.borrow(person, stand);
            x.hour(2, 0);
            x.bringBack(person, stand);
        }
        x.set(8, 1);
    }

    /** The house keeps so many coins, all of which it can spend: person 11 pays, and the stand 7 gets umbrellas. */
    static void leaveHouse(RibbedLoans x, int stand, int coins) {
        pay(x, 11, stand, Math.floorMod(coins - x.count(8), 5));
        x.set(7, 20);
        while (x.count(8) > coins) {
            x.buy(7, 1);
        }
    }

    /** Twenty umbrellas in the stand 0, a house with 240 coins, and rooms of 20. */
    static RibbedLoans rich() {
        RibbedLoans x = new RibbedLoans();
        for (int stand = 0; stand < 8; stand++) {
            x.set(stand, 20);
        }
        x.set(8, 5);
        x.buy(0, 20);
        for (int round = 0; round < 2; round++) {
            for (int person = 0; person < 12; person++) {
                x.borrow(person, 0);
            }
            x.hour(2, 0);
            x.hour(2, 0);
            for (int person = 0; person < 12; person++) {
                x.bringBack(person, 0);
            }
        }
        return x;
    }

    /** As many hours without rain and gusts as lead to the present hour told. */
    static void waitUntil(RibbedLoans x, int hour) {
        while (x.count(0) < hour) {
            x.hour(0, 0);
        }
    }

    /** The broken ones of a stand, which must be its worst, get into the workshop by the van 0, at most ten. */
    static void bringBroken(RibbedLoans x, int stand) {
        x.load(0, stand, x.stand(stand, 2));
        x.toWorkshop(0);
    }

    static void write(RibbedLoans x, String text) {
        for (int i = 0; i < text.length(); i++) {
            x.append(text.charAt(i));
        }
    }
}
