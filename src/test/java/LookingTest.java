/** Promises 18 to 22: count, umbrella, stand, person, inVan. */
public final class LookingTest {
    private static final Check CHECK = new Check();

    public static void main(String[] args) {
        RibbedLoans x = town();
        promise18(x);
        promise19(x);
        promise20(x);
        promise21(x);
        promise22(x);
        CHECK.end("LookingTest");
    }

    /** Umbrellas at every place: 0 is mended, 1 scrapped, 2 in the workshop, 3 and 4 in a van, 5 in a hand. */
    private static RibbedLoans town() {
        RibbedLoans x = new RibbedLoans();
        x.set(0, 20);
        x.buy(0, 9);
        for (int person = 0; person < 4; person++) {
            x.borrow(person, 0);
        }
        for (int i = 0; i < 3; i++) {
            x.hour(4, 3);
        }
        for (int person = 0; person < 4; person++) {
            x.bringBack(person, 0);
        }
        x.load(0, 0, 3);
        x.toWorkshop(0);
        x.mend(6);
        x.load(1, 0, 2);
        x.borrow(7, 0);
        x.hour(3, 1);
        x.hour(1, 0);
        x.take(1);
        Check.write(x, "abc");
        return x;
    }

    private static void promise18(RibbedLoans x) {
        int[] want = {5, 9, 4, 1, 2, 1, 1, 2, 90, 442, 48, 28, 5, 0, 1, 1, 5, 3};
        for (int what = 0; what < want.length; what++) {
            CHECK.due("18: " + what, x.count(what), want[what]);
        }
        CHECK.due("18: too small", x.count(-1), RibbedLoans.INVALID_ARGUMENT);
        CHECK.due("18: too great", x.count(18), RibbedLoans.INVALID_ARGUMENT);
        RibbedLoans y = new RibbedLoans();
        y.hour(5, 0);
        y.hour(9, 0);
        y.set(8, 4);
        y.take(0);
        y.take(1);
        CHECK.due("18: surges", y.count(13), 2);
        CHECK.due("18: rate", y.count(14), 4);
        CHECK.due("18: snapshots", y.count(15), 2);
    }

    private static void promise19(RibbedLoans x) {
        int none = RibbedLoans.NONE;
        int[][] want = {{0, 6, 8, 0, 1}, {4, none, 34, 1, 1}, {3, none, 34, 1, 1}, {2, 1, 34, 1, 1},
            {2, 1, 0, 0, 0}, {1, 7, 6, 0, 1}, {0, 0, 0, 0, 0}};
        for (int u = 0; u < want.length; u++) {
            for (int what = 0; what < 5; what++) {
                CHECK.due("19: " + u + ", " + what, x.umbrella(u, what), want[u][what]);
            }
        }
        int[][] wrong = {{-1, 0}, {9, 0}, {60, 0}, {0, -1}, {0, 5}, {Integer.MAX_VALUE, 0}, {Integer.MIN_VALUE, 0}};
        for (int[] w : wrong) {
            CHECK.due("19: out of range", x.umbrella(w[0], w[1]), RibbedLoans.INVALID_ARGUMENT);
        }
    }

    private static void promise20(RibbedLoans x) {
        int[] stand0 = {20, 3, 0, 6, 6, 0};
        int[] stand6 = {8, 1, 0, 0, 0, 100};
        int[] stand1 = {8, 0, 0, RibbedLoans.NONE, RibbedLoans.NONE, 0};
        for (int what = 0; what < 6; what++) {
            CHECK.due("20: stand 0, " + what, x.stand(0, what), stand0[what]);
            CHECK.due("20: stand 6, " + what, x.stand(6, what), stand6[what]);
            CHECK.due("20: stand 1, " + what, x.stand(1, what), stand1[what]);
        }
        int[][] wrong = {{-1, 0}, {8, 0}, {0, -1}, {0, 6}};
        for (int[] w : wrong) {
            CHECK.due("20: out of range", x.stand(w[0], w[1]), RibbedLoans.INVALID_ARGUMENT);
        }
        bestAndWorst();
    }

    private static void bestAndWorst() {
        RibbedLoans x = new RibbedLoans();
        x.buy(5, 3);
        int[] hours = {2, 5, 1};
        for (int i = 0; i < 3; i++) {
            x.borrow(i, 5);
        }
        for (int past = 1; past <= 5; past++) {
            x.hour(1, 3);
            for (int i = 0; i < 3; i++) {
                if (hours[i] == past) {
                    x.bringBack(i, 5);
                }
            }
        }
        CHECK.due("20: best", x.stand(5, 3), 2);
        CHECK.due("20: worst", x.stand(5, 4), 1);
        CHECK.due("20: broken", x.stand(5, 2), 1);
        // Wears of 14, 37 and 7 eighths: 58 / 24 is 2.41666..
        CHECK.due("20: mean", x.stand(5, 5), 241);
        x.load(0, 5, 1);
        CHECK.due("20: mean", x.stand(5, 5), 131);
        x.unload(0, 5, 1);
        x.load(0, 5, 1);
        x.load(0, 5, 1);
        x.load(0, 5, 1);
        x.unload(0, 1, 2);
        CHECK.due("20: worst of two", x.stand(1, 4), 0);
        CHECK.due("20: none", x.stand(5, 4), RibbedLoans.NONE);
        CHECK.due("20: no worst one in the stand 0", x.stand(0, 4), RibbedLoans.NONE);
        CHECK.due("20: no best one in the stand 0", x.stand(0, 3), RibbedLoans.NONE);
    }

    private static void promise21(RibbedLoans x) {
        int[] person0 = {33, RibbedLoans.NONE, 0, 0, 0, 7};
        int[] person7 = {30, 5, 1, 0, 7, 0};
        int[] person11 = {40, RibbedLoans.NONE, 0, 0, 3, 0};
        for (int what = 0; what < 6; what++) {
            CHECK.due("21: person 0, " + what, x.person(0, what), person0[what]);
            CHECK.due("21: person 7, " + what, x.person(7, what), person7[what]);
            CHECK.due("21: person 11, " + what, x.person(11, what), person11[what]);
        }
        int[][] wrong = {{-1, 0}, {12, 0}, {0, -1}, {0, 6}};
        for (int[] w : wrong) {
            CHECK.due("21: out of range", x.person(w[0], w[1]), RibbedLoans.INVALID_ARGUMENT);
        }
        RibbedLoans y = new RibbedLoans();
        y.buy(1, 1);
        y.borrow(2, 1);
        y.hour(9, 3);
        y.hour(9, 3);
        y.hour(2, 0);
        CHECK.due("21: showers", y.person(2, 2), 3);
        CHECK.due("21: broke", y.person(2, 3), 1);
        y.bringBack(2, 4);
        CHECK.due("21: stand", y.person(2, 4), 4);
        CHECK.due("21: fees", y.person(2, 5), 7);
        CHECK.due("21: no loan", y.person(2, 2), 0);
        CHECK.due("21: no loan", y.person(2, 3), 0);
    }

    private static void promise22(RibbedLoans x) {
        CHECK.due("22: first", x.inVan(1, 0), 3);
        CHECK.due("22: second", x.inVan(1, 1), 4);
        CHECK.due("22: no third", x.inVan(1, 2), RibbedLoans.NONE);
        CHECK.due("22: far off", x.inVan(1, Integer.MAX_VALUE), RibbedLoans.NONE);
        CHECK.due("22: empty van", x.inVan(0, 0), RibbedLoans.NONE);
        CHECK.due("22: van", x.inVan(-1, 0), RibbedLoans.INVALID_ARGUMENT);
        CHECK.due("22: van", x.inVan(2, 0), RibbedLoans.INVALID_ARGUMENT);
        CHECK.due("22: place", x.inVan(0, -1), RibbedLoans.INVALID_ARGUMENT);
    }
}
