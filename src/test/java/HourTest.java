/** Promise 6, and the terms that it rests on: showers, wear, surges. */
public final class HourTest {
    private static final int NONE = RibbedLoans.NONE;
    private static final int MIN = Integer.MIN_VALUE;
    private static final int MAX = Integer.MAX_VALUE;

    public static void main(String[] args) {
        Sentences.run(HourTest.class);
    }

    // ---- terms

    @Says(words = "The present hour is 0 at first.")
    static void theFirstHourIs0(Check c) {
        c.due("present hour", new RibbedLoans().count(0), 0);
    }

    @Says(words = "An hour has rain (0 to 9) and gusts (0 to 3). When it passes:")
    static void everyRainAndGusts(Check c) {
        for (int rain = 0; rain <= 9; rain++) {
            for (int gusts = 0; gusts <= 3; gusts++) {
                RibbedLoans x = new RibbedLoans();
                x.buy(7, 1);
                x.borrow(0, 7);
                c.due("hour", x.hour(rain, gusts), 0);
                c.due("wear by " + rain + " and " + gusts, x.umbrella(0, 2), rain + 2 * gusts);
                c.due("showers by " + rain, x.person(0, 2), rain < 2 ? 0 : 1);
                c.due("surges by " + rain, x.count(13), rain < 5 ? 0 : 1);
            }
        }
    }

    @Says(words = "The present hour becomes greater by 1.")
    static void theHourBecomesGreaterBy1(Check c) {
        RibbedLoans x = new RibbedLoans();
        int[] rains = {0, 1, 5, 9, 2};
        for (int i = 0; i < rains.length; i++) {
            x.hour(rains[i], 3);
            c.due("present hour", x.count(0), i + 1);
        }
    }

    @Says(words = "If the rain is 2 or more, it is a shower for each loan.")
    static void aShowerFromRain2(Check c) {
        RibbedLoans x = new RibbedLoans();
        x.buy(0, 8);
        x.borrow(0, 0);
        x.borrow(11, 0);
        x.hour(1, 3);
        c.due("rain 1", x.person(0, 2), 0);
        x.hour(2, 0);
        c.due("rain 2", x.person(0, 2), 1);
        c.due("each loan", x.person(11, 2), 1);
        c.due("without a loan", x.person(5, 2), 0);
        x.borrow(5, 0);
        x.hour(4, 0);
        c.due("a later loan", x.person(5, 2), 1);
        c.due("an older one", x.person(0, 2), 2);
    }

    @Says(words = "Each umbrella in a hand gets more wear")
    static void wearInHandsAlone(Check c) {
        RibbedLoans x = Town.worn(2, 40, 40, 40, 3, 3, 3, 3);
        Town.bringBroken(x, 2);
        x.mend(0);
        x.load(1, 2, 1);
        x.borrow(0, 0);
        x.borrow(11, 2);
        int[] before = new int[7];
        for (int u = 0; u < 7; u++) {
            before[u] = x.umbrella(u, 2);
        }
        x.hour(4, 3);
        for (int u = 0; u < 7; u++) {
            int more = x.umbrella(u, 0) == 1 ? 10 : 0;
            c.due("wear at place " + x.umbrella(u, 0), x.umbrella(u, 2), before[u] + more);
        }
        c.due("in hands", x.count(3), 2);
    }

    @Says(words = "the rain times 0.125")
    static void wearByRain(Check c) {
        for (int rain = 0; rain <= 9; rain++) {
            RibbedLoans x = Town.worn(7, 6);
            x.borrow(8, 7);
            x.hour(rain, 0);
            c.due("wear by rain " + rain, x.umbrella(0, 2), 6 + rain);
        }
    }

    @Says(words = "and, if its wear was not below 2 before, as much again")
    static void twiceTheRainFromWear2(Check c) {
        int[][] rows = {{14, 21}, {15, 22}, {16, 30}, {17, 31}, {31, 45}};
        for (int[] row : rows) {
            RibbedLoans x = Town.worn(7, row[0]);
            x.borrow(8, 7);
            x.hour(7, 0);
            c.due("wear from " + row[0], x.umbrella(0, 2), row[1]);
        }
        RibbedLoans x = Town.worn(7, 31);
        x.borrow(8, 7);
        x.hour(7, 0);
        x.hour(7, 0);
        c.due("a broken one, too", x.umbrella(0, 2), 59);
    }

    @Says(words = "and then 0.25 for each of the gusts")
    static void wearByGusts(Check c) {
        for (int gusts = 0; gusts <= 3; gusts++) {
            RibbedLoans x = Town.worn(7, 10, 20);
            x.borrow(8, 7);
            x.borrow(9, 7);
            x.hour(1, gusts);
            c.due("below 2", x.umbrella(0, 2), 11 + 2 * gusts);
            c.due("gusts are not doubled", x.umbrella(1, 2), 22 + 2 * gusts);
        }
    }

    @Says(words = "but at most to 8.")
    static void wearAtMost8(Check c) {
        RibbedLoans x = Town.worn(7, 31, 30);
        x.borrow(8, 7);
        x.borrow(9, 7);
        for (int i = 0; i < 16; i++) {
            x.hour(1, 0);
        }
        c.due("wear 63 may be", x.umbrella(0, 2), 63);
        c.due("62", x.umbrella(1, 2), 62);
        x.hour(1, 0);
        c.due("65 may not", x.umbrella(0, 2), 64);
        c.due("64", x.umbrella(1, 2), 64);
        x.hour(9, 3);
        c.due("nor more", x.umbrella(0, 2), 64);
        RibbedLoans y = Town.worn(7, 31);
        y.borrow(8, 7);
        y.hour(4, 3);
        y.hour(6, 0);
        c.due("57", y.umbrella(0, 2), 57);
        y.hour(9, 3);
        c.due("far over", y.umbrella(0, 2), 64);
    }

    @Says(words = "If the rain is 5 or more, it is a surge")
    static void aSurgeFromRain5(Check c) {
        for (int rain = 0; rain <= 9; rain++) {
            RibbedLoans x = new RibbedLoans();
            c.due("with nothing there", x.hour(rain, 0), 0);
            c.due("surges by " + rain, x.count(13), rain >= 5 ? 1 : 0);
            x.buy(3, 1);
            x.hour(rain, 3);
            c.due("surges by " + rain, x.count(13), rain >= 5 ? 2 : 0);
            c.due("in hands by " + rain, x.count(3), rain >= 5 ? 1 : 0);
        }
    }

    @Says(words = "person by person")
    static void personByPerson(Check c) {
        RibbedLoans x = Town.worn(1, 9, 4, 7);
        // Now the persons 0 to 2 are at the stand 1, and so is the 9, but for two umbrellas.
        x.load(0, 1, 1);
        x.hour(5, 0);
        c.due("person 0 gets the best", x.person(0, 1), 1);
        c.due("person 1 the next", x.person(1, 1), 2);
        c.due("person 2 none", x.person(2, 1), NONE);
        c.due("person 9 none", x.person(9, 1), NONE);
        RibbedLoans y = new RibbedLoans();
        y.buy(3, 1);
        y.hour(5, 0);
        c.due("3 before 11", y.person(3, 1), 0);
        c.due("11", y.person(11, 1), NONE);
    }

    @Says(words = "each one that has no umbrella in hand")
    static void noSecondOneAtASurge(Check c) {
        RibbedLoans x = new RibbedLoans();
        x.buy(3, 4);
        x.borrow(3, 3);
        x.hour(5, 0);
        c.due("person 3 keeps its own", x.person(3, 1), 0);
        c.due("person 11 gets one", x.person(11, 1), 1);
        c.due("the rest stays", x.stand(3, 1), 2);
        c.due("coins of 3", x.person(3, 0), 30);
        c.due("loans", x.count(12), 2);
        x.hour(4, 3);
        x.hour(4, 3);
        x.hour(5, 3);
        c.due("it broke", x.person(3, 3), 1);
        x.hour(5, 0);
        c.due("a broken one is one in hand", x.person(3, 1), 0);
        c.due("loans", x.count(12), 2);
    }

    @Says(words = "and at least 10 coins")
    static void tenCoinsAtASurge(Check c) {
        RibbedLoans x = new RibbedLoans();
        x.buy(3, 4);
        Town.pay(x, 3, 3, 31);
        Town.pay(x, 11, 3, 30);
        c.due("9 coins", x.person(3, 0), 9);
        c.due("10 coins", x.person(11, 0), 10);
        x.hour(5, 0);
        c.due("9 are too few", x.person(3, 1), NONE);
        c.holds("10 are enough", x.person(11, 1) >= 0);
        c.due("nothing is left", x.person(11, 0), 0);
    }

    @Says(words = "borrows the best one of its stand, if there is one.")
    static void theBestOneOfItsStand(Check c) {
        RibbedLoans x = Town.worn(6, 40, 12, 11, 33);
        x.buy(5, 1);
        x.hour(5, 0);
        int[] want = {2, 1, NONE, NONE, NONE, 4, NONE, NONE, NONE, NONE, NONE, NONE};
        for (int person = 0; person < 12; person++) {
            c.due("person " + person, x.person(person, 1), want[person]);
        }
        c.due("coins of 5", x.person(5, 0), 30);
        c.due("deposits", x.count(8), 100 - 25 + 8 + 30);
        c.due("lent", x.umbrella(4, 4), 1);
        c.due("the wear came before", x.umbrella(4, 2), 0);
        c.due("and the shower", x.person(5, 2), 0);
        c.due("its fee", x.feeIn(5, 0, 0), 0);
        x.hour(5, 0);
        c.due("wear in the next hour", x.umbrella(4, 2), 5);
        c.due("shower in the next hour", x.person(5, 2), 1);
    }

    @Says(words = "The stand of a person is the one where it brought an umbrella back last")
    static void itsStandIsWhereItBroughtBackLast(Check c) {
        RibbedLoans x = new RibbedLoans();
        x.buy(1, 4);
        x.borrow(0, 1);
        c.due("borrowing leaves it", x.person(0, 4), 0);
        x.bringBack(0, 5);
        c.due("5", x.person(0, 4), 5);
        x.borrow(0, 1);
        x.bringBack(0, 7);
        c.due("7 last", x.person(0, 4), 7);
        x.buy(0, 1);
        x.hour(5, 0);
        c.due("borrowed at 7", x.person(0, 1), 1);
        c.due("its stand stays at a surge", x.person(0, 4), 7);
    }

    @Says(words = "at first the person's number left over by 8.")
    static void itsStandAtFirst(Check c) {
        RibbedLoans x = new RibbedLoans();
        int[] want = {0, 1, 2, 3, 4, 5, 6, 7, 0, 1, 2, 3};
        for (int person = 0; person < 12; person++) {
            c.due("stand of " + person, x.person(person, 4), want[person]);
        }
        for (int stand = 0; stand < 8; stand++) {
            x.buy(stand, 2);
        }
        x.hour(5, 0);
        for (int person = 0; person < 12; person++) {
            c.due("umbrella of " + person, x.person(person, 1), 2 * want[person] + (person < 8 ? 0 : 1));
        }
    }

    // ---- promise 6

    @Says(promise = 6, words = "Lets an hour pass.")
    static void hourPasses(Check c) {
        RibbedLoans x = Town.worn(3, 20);
        x.borrow(4, 3);
        int hours = x.count(0);
        x.buy(7, 1);
        x.hour(5, 1);
        c.due("hour", x.count(0), hours + 1);
        c.due("wear", x.umbrella(0, 2), 32);
        c.due("shower", x.person(4, 2), 1);
        c.due("surge", x.person(7, 1), 1);
        c.due("the house gets no fee yet", x.count(11), 0);
    }

    @Says(promise = 6, words = "This is an action.")
    static void hourIsAnAction(Check c) {
        RibbedLoans x = Town.worn(3, 20, 4, 4);
        x.borrow(4, 3);
        c.isAction("hour(9, 3)", x, () -> x.hour(9, 3));
        c.isAction("hour(0, 0)", x, () -> x.hour(0, 0));
    }

    @Says(promise = 6, words = "`rain`: 0 to 9")
    static void hourRain0To9(Check c) {
        RibbedLoans x = new RibbedLoans();
        c.due("least", x.hour(0, 0), 0);
        c.due("most", x.hour(9, 0), 0);
        for (int rain : new int[] {-1, 10, MIN, MAX}) {
            c.invalid("rain " + rain, x, () -> x.hour(rain, 0));
        }
    }

    @Says(promise = 6, words = "`gusts`: 0 to 3")
    static void hourGusts0To3(Check c) {
        RibbedLoans x = new RibbedLoans();
        c.due("least", x.hour(1, 0), 0);
        c.due("most", x.hour(1, 3), 0);
        for (int gusts : new int[] {-1, 4, MIN, MAX}) {
            c.invalid("gusts " + gusts, x, () -> x.hour(1, gusts));
        }
    }

    @Says(promise = 6, words = "Returns the number of umbrellas that break in it")
    static void hourCountsThoseThatBreak(Check c) {
        RibbedLoans x = Town.worn(3, 31, 30, 29, 20, 31, 31);
        for (int person = 6; person < 11; person++) {
            x.borrow(person, 3);
        }
        // In hands are now the wears 20, 29, 30, 31 and 31.
        c.due("those that come to 32 or 33", x.hour(0, 1), 3);
        c.due("that from 31", x.hour(0, 1), 1);
        c.due("none a second time", x.hour(1, 0), 0);
        c.due("the last one", x.hour(4, 3), 1);
        c.due("none is left, but for one in a stand", x.hour(4, 3), 0);
        c.due("broken", x.count(7), 5);
    }

    @Says(promise = 6, words = "INVALID_ARGUMENT if an argument is out of range")
    static void hourRangeComesFirst(Check c) {
        RibbedLoans x = new RibbedLoans();
        Town.waitUntil(x, 500);
        c.invalid("rain at 500", x, () -> x.hour(10, 0));
        c.invalid("gusts at 500", x, () -> x.hour(0, -1));
    }

    @Says(promise = 6, words = "CAPACITY_EXCEEDED if the present hour is 500.")
    static void hour500IsTheLast(Check c) {
        RibbedLoans x = new RibbedLoans();
        Town.waitUntil(x, 499);
        c.due("from 499 to 500", x.hour(0, 0), 0);
        c.due("present hour", x.count(0), 500);
        c.exceeded("at 500", x, () -> x.hour(0, 0));
        c.exceeded("a surge at 500", x, () -> x.hour(9, 3));
        x.undo();
        c.due("at 499 again", x.hour(9, 0), 0);
    }
}
