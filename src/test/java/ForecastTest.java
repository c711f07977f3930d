/** Promises 23 to 26: feeIn, breaksIn, emptied, shortest. */
public final class ForecastTest {
    private static final int NONE = RibbedLoans.NONE;
    private static final int MIN = Integer.MIN_VALUE;
    private static final int MAX = Integer.MAX_VALUE;

    public static void main(String[] args) {
        Sentences.run(ForecastTest.class);
    }

    // ---- feeIn

    @Says(promise = 23, words = "Tells the fee that a person would pay, if it brought its umbrella back behind some"
        + " hours of a rain without gusts")
    static void feeInAsItWouldBe(Check c) {
        for (int wear : new int[] {0, 9, 15, 16, 31}) {
            for (int rate : new int[] {0, 1, 3}) {
                for (int rain = 0; rain <= 9; rain++) {
                    feesAlike(c, wear, rate, rain);
                }
            }
        }
    }

    /** The forecast must be what is paid when the hours have passed. */
    private static void feesAlike(Check c, int wear, int rate, int rain) {
        RibbedLoans x = Town.worn(4, wear);
        x.set(8, rate);
        x.borrow(11, 4);
        x.hour(2, 0);
        int[] told = new int[12];
        for (int hours = 0; hours < told.length; hours++) {
            told[hours] = x.feeIn(11, hours, rain);
        }
        for (int fee : told) {
            c.due("wear " + wear + ", rate " + rate + ", rain " + rain, x.bringBack(11, 4), fee);
            x.undo();
            x.hour(rain, 0);
        }
    }

    @Says(promise = 23, words = "Returns the fee")
    static void feeInReturnsTheFee(Check c) {
        RibbedLoans x = Town.worn(4, 6);
        x.borrow(11, 4);
        x.hour(2, 1);
        c.keeps("now", x, () -> x.feeIn(11, 0, 9), 1);
        c.keeps("three showers", x, () -> x.feeIn(11, 3, 2), 4);
        c.keeps("rain 1 is no shower", x, () -> x.feeIn(11, 13, 1), 1);
        c.keeps("but breaks it", x, () -> x.feeIn(11, 14, 1), 5);
        c.keeps("at most 10", x, () -> x.feeIn(11, 50, 9), 10);
        x.set(8, 0);
        c.keeps("the rate as it is now", x, () -> x.feeIn(11, 50, 9), 4);
        for (int stand = 0; stand < 8; stand++) {
            x.buy(stand, 1);
            x.set(stand, 1);
        }
        c.keeps("though no stand has room", x, () -> x.feeIn(11, 0, 0), 0);
    }

    @Says(promise = 23, words = "(also beyond the hour 500).")
    static void feeInBeyond500(Check c) {
        RibbedLoans x = new RibbedLoans();
        x.buy(4, 1);
        x.borrow(11, 4);
        Town.waitUntil(x, 499);
        c.due("at 499", x.feeIn(11, 3, 4), 3);
        Town.waitUntil(x, 500);
        c.due("at 500", x.feeIn(11, 3, 4), 3);
        c.due("as broken", x.feeIn(11, 6, 4), 10);
    }

    @Says(promise = 23, words = "`person`: 0 to 11")
    static void feeInPersons(Check c) {
        RibbedLoans x = new RibbedLoans();
        x.set(4, 20);
        x.buy(4, 12);
        for (int person = 0; person < 12; person++) {
            x.borrow(person, 4);
            x.hour(2, 0);
        }
        for (int person = 0; person < 12; person++) {
            c.due("person " + person, x.feeIn(person, 0, 0), Math.min(10, 12 - person));
        }
        for (int person : new int[] {-1, 12, MIN, MAX}) {
            c.invalid("person " + person, x, () -> x.feeIn(person, 0, 0));
        }
    }

    @Says(promise = 23, words = "`hours`: 0 to 50")
    static void feeInHours(Check c) {
        RibbedLoans x = new RibbedLoans();
        x.buy(4, 1);
        x.borrow(11, 4);
        c.due("0", x.feeIn(11, 0, 9), 0);
        c.due("1", x.feeIn(11, 1, 9), 1);
        c.due("50", x.feeIn(11, 50, 0), 0);
        for (int hours : new int[] {-1, 51, MIN, MAX}) {
            c.invalid("hours " + hours, x, () -> x.feeIn(11, hours, 0));
        }
    }

    @Says(promise = 23, words = "`rain`: 0 to 9")
    static void feeInRain(Check c) {
        RibbedLoans x = new RibbedLoans();
        x.buy(4, 1);
        x.borrow(11, 4);
        c.due("0", x.feeIn(11, 4, 0), 0);
        c.due("1", x.feeIn(11, 4, 1), 0);
        c.due("2", x.feeIn(11, 4, 2), 4);
        c.due("9", x.feeIn(11, 2, 9), 2);
        c.due("9 breaks it", x.feeIn(11, 3, 9), 7);
        for (int rain : new int[] {-1, 10, MIN, MAX}) {
            c.invalid("rain " + rain, x, () -> x.feeIn(11, 0, rain));
        }
    }

    @Says(promise = 23, words = {"INVALID_ARGUMENT if an argument is out of range",
        "ILLEGAL_STATE if the person has no umbrella in hand."})
    static void feeInErrors(Check c) {
        RibbedLoans x = new RibbedLoans();
        x.buy(4, 1);
        c.invalid("hours, before an empty hand", x, () -> x.feeIn(0, 51, 0));
        c.invalid("rain, before an empty hand", x, () -> x.feeIn(0, 0, 10));
        c.illegal("an empty hand", x, () -> x.feeIn(0, 0, 0));
        x.borrow(1, 4);
        c.illegal("another has one", x, () -> x.feeIn(0, 50, 9));
        x.bringBack(1, 4);
        c.illegal("it is back", x, () -> x.feeIn(1, 0, 0));
    }

    // ---- breaksIn

    @Says(promise = 24, words = "Tells in how many hours of a rain and gusts")
    static void breaksInAsItWillBe(Check c) {
        for (int wear : new int[] {0, 9, 15, 16, 31}) {
            for (int rain = 0; rain <= 9; rain++) {
                for (int gusts = rain == 0 ? 1 : 0; gusts <= 3; gusts++) {
                    breaksAlike(c, wear, rain, gusts);
                }
            }
        }
    }

    /** It must be the very hour in which it breaks. */
    private static void breaksAlike(Check c, int wear, int rain, int gusts) {
        RibbedLoans x = Town.worn(4, wear);
        x.borrow(11, 4);
        int told = x.breaksIn(11, rain, gusts);
        for (int hours = 1; hours <= told; hours++) {
            String label = "hour " + hours + " from wear " + wear + " by " + rain + " and " + gusts;
            c.due(label, x.hour(rain, gusts), hours == told ? 1 : 0);
        }
        c.due("broken", x.person(11, 3), 1);
    }

    @Says(promise = 24, words = "(also beyond the hour 500) the umbrella of a person breaks.")
    static void breaksInBeyond500(Check c) {
        RibbedLoans x = new RibbedLoans();
        x.buy(4, 1);
        x.borrow(11, 4);
        Town.waitUntil(x, 499);
        c.due("at 499", x.breaksIn(11, 1, 0), 24);
        Town.waitUntil(x, 500);
        c.due("at 500", x.breaksIn(11, 1, 0), 24);
        c.due("at 500", x.breaksIn(11, 9, 3), 3);
    }

    @Says(promise = 24, words = "`person`: 0 to 11")
    static void breaksInPersons(Check c) {
        RibbedLoans x = new RibbedLoans();
        x.set(4, 20);
        x.buy(4, 12);
        for (int person = 0; person < 12; person++) {
            x.borrow(person, 4);
            x.hour(1, 0);
        }
        for (int person = 0; person < 12; person++) {
            c.due("person " + person, x.breaksIn(person, 1, 0), 12 + person);
        }
        for (int person : new int[] {-1, 12, MIN, MAX}) {
            c.invalid("person " + person, x, () -> x.breaksIn(person, 0, 0));
        }
    }

    @Says(promise = 24, words = "`rain`: 0 to 9")
    static void breaksInRain(Check c) {
        RibbedLoans x = new RibbedLoans();
        x.buy(4, 1);
        x.borrow(11, 4);
        int[] want = {16, 10, 7, 6, 5, 4, 4, 3, 3, 3};
        for (int rain = 0; rain <= 9; rain++) {
            c.due("rain " + rain, x.breaksIn(11, rain, 1), want[rain]);
        }
        for (int rain : new int[] {-1, 10, MIN, MAX}) {
            c.invalid("rain " + rain, x, () -> x.breaksIn(11, rain, 0));
        }
    }

    @Says(promise = 24, words = "`gusts`: 0 to 3")
    static void breaksInGusts(Check c) {
        RibbedLoans x = new RibbedLoans();
        x.buy(4, 1);
        x.borrow(11, 4);
        int[] want = {24, 10, 6, 5};
        for (int gusts = 0; gusts <= 3; gusts++) {
            c.due("gusts " + gusts, x.breaksIn(11, 1, gusts), want[gusts]);
        }
        for (int gusts : new int[] {-1, 4, MIN, MAX}) {
            c.invalid("gusts " + gusts, x, () -> x.breaksIn(11, 0, gusts));
        }
    }

    @Says(promise = 24, words = "Returns the number of hours, 0 if it is broken")
    static void breaksIn0IfBroken(Check c) {
        RibbedLoans x = Town.worn(4, 31);
        x.borrow(11, 4);
        c.keeps("wear 31", x, () -> x.breaksIn(11, 1, 0), 1);
        x.hour(1, 0);
        c.keeps("broken", x, () -> x.breaksIn(11, 1, 0), 0);
        c.keeps("broken, without rain and gusts", x, () -> x.breaksIn(11, 0, 0), 0);
        c.keeps("broken, in the worst", x, () -> x.breaksIn(11, 9, 3), 0);
    }

    @Says(promise = 24, words = {"INVALID_ARGUMENT if an argument is out of range",
        "ILLEGAL_STATE if the person has no umbrella in hand;"})
    static void breaksInErrors(Check c) {
        RibbedLoans x = new RibbedLoans();
        x.buy(4, 1);
        c.invalid("rain, before an empty hand", x, () -> x.breaksIn(0, 10, 0));
        c.invalid("gusts, before an empty hand", x, () -> x.breaksIn(0, 0, 4));
        c.illegal("an empty hand", x, () -> x.breaksIn(0, 9, 3));
        c.illegal("an empty hand, before never", x, () -> x.breaksIn(0, 0, 0));
        x.borrow(1, 4);
        c.illegal("another has one", x, () -> x.breaksIn(0, 9, 3));
        x.bringBack(1, 4);
        c.illegal("it is back", x, () -> x.breaksIn(1, 0, 0));
    }

    @Says(promise = 24, words = "NONE if it does not by 100 hours.")
    static void breaksInNever(Check c) {
        RibbedLoans x = Town.worn(4, 31, 0);
        x.borrow(11, 4);
        x.borrow(10, 4);
        c.keeps("wear 0", x, () -> x.breaksIn(11, 0, 0), NONE);
        c.keeps("wear 31", x, () -> x.breaksIn(10, 0, 0), NONE);
        c.keeps("the slowest that breaks one", x, () -> x.breaksIn(11, 1, 0), 24);
    }

    // ---- emptied

    @Says(promise = 25, words = "Finds the stands that have no best umbrella behind a surge now")
    static void emptiedAsItWillBe(Check c) {
        RibbedLoans x = new RibbedLoans();
        x.buy(0, 2);
        x.buy(1, 3);
        x.buy(6, 1);
        x.buy(7, 2);
        c.keeps("as many as persons, or fewer, are gone", x, x::emptied, 255 - 2 - 128);
        emptiedAlike(c, x);
        x.borrow(0, 7);
        c.keeps("one with an umbrella borrows none", x, x::emptied, 255 - 1 - 2);
        emptiedAlike(c, x);
        x.bringBack(0, 1);
        Town.pay(x, 7, 7, 31);
        c.keeps("nor does one with 9 coins", x, x::emptied, 255 - 1 - 2 - 128);
        emptiedAlike(c, x);
        RibbedLoans y = Town.worn(7, 31, 40);
        c.keeps("a broken one is no best one; 0, 1 and 7 want one", y, y::emptied, 255);
        emptiedAlike(c, y);
        RibbedLoans z = Town.worn(3, 31, 31, 31, 31, 31);
        c.keeps("six persons for five, whose wear stays", z, z::emptied, 255);
        emptiedAlike(c, z);
        z.buy(3, 1);
        c.keeps("six for six", z, z::emptied, 255);
        emptiedAlike(c, z);
        z.buy(3, 1);
        c.keeps("six for seven", z, z::emptied, 255 - 8);
        emptiedAlike(c, z);
    }

    @Says(promise = 25, words = "Finds the stands that have no best umbrella behind a surge now")
    static void emptiedWithABrokenOneInHand(Check c) {
        RibbedLoans x = new RibbedLoans();
        x.buy(7, 2);
        x.borrow(7, 7);
        c.keeps("person 7 has one", x, x::emptied, 255 - 128);
        for (int i = 0; i < 6; i++) {
            x.hour(0, 3);
        }
        c.due("it broke", x.person(7, 3), 1);
        c.keeps("and still borrows none", x, x::emptied, 255 - 128);
        emptiedAlike(c, x);
    }

    private static void emptiedAlike(Check c, RibbedLoans x) {
        int told = x.emptied();
        x.hour(5, 0);
        for (int stand = 0; stand < 8; stand++) {
            c.due("stand " + stand + " behind a surge", told >> stand & 1, x.stand(stand, 3) == NONE ? 1 : 0);
        }
        x.undo();
    }

    @Says(promise = 25, words = "(an hour of rain 5 without gusts, also at the hour 500).")
    static void emptiedAt500(Check c) {
        RibbedLoans x = new RibbedLoans();
        x.buy(3, 3);
        x.buy(6, 1);
        Town.waitUntil(x, 500);
        c.keeps("at 500", x, x::emptied, 255 - 8);
        c.due("no hour passes", x.count(0), 500);
    }

    @Says(promise = 25, words = "Returns the set of stands (bit k for the stand k).")
    static void emptiedBits(Check c) {
        RibbedLoans x = new RibbedLoans();
        c.keeps("all", x, x::emptied, 255);
        int set = 255;
        for (int stand = 0; stand < 8; stand++) {
            x.set(stand, 3);
            // One more than the persons there.
            x.buy(stand, stand < 4 ? 3 : stand == 7 ? 1 : 2);
            set -= stand == 7 ? 0 : 1 << stand;
            c.keeps("up to " + stand, x, x::emptied, set);
        }
        x.undo();
        c.keeps("7 alone", x, x::emptied, 128);
    }

    // ---- shortest

    @Says(promise = 26, words = "Finds the stand to which the fewest umbrellas have to be brought")
    static void shortestTheFewest(Check c) {
        RibbedLoans x = new RibbedLoans();
        for (int stand = 4; stand < 8; stand++) {
            x.buy(stand, 1);
        }
        x.buy(2, 1);
        c.keeps("2 lacks one, 0, 1 and 3 two", x, () -> x.shortest(0), 2);
        c.keeps("one", x, () -> x.shortest(1), 1);
        x.buy(2, 1);
        c.keeps("now it is 0", x, () -> x.shortest(0), 0);
        c.keeps("two", x, () -> x.shortest(1), 2);
        RibbedLoans y = Town.worn(3, 40, 31, 32);
        // The persons 0, 1, 2, 3 and 11 are at the stand 3, with one that is not broken; all others lack one or two.
        for (int stand = 0; stand < 8; stand++) {
            y.buy(stand, stand == 3 ? 0 : 2);
        }
        c.due("3 alone", y.shortest(0), 3);
        c.due("broken ones do not help", y.shortest(1), 4);
    }

    @Says(promise = 26, words = "(whatever its room)")
    static void shortestWhateverTheRoom(Check c) {
        RibbedLoans x = Town.worn(5, 40, 40, 40, 40);
        for (int stand = 0; stand < 8; stand++) {
            x.buy(stand, stand == 5 ? 0 : 2);
        }
        x.set(5, 4);
        // The persons 0 to 3 and 5 are at the stand 5, which is full of broken ones.
        c.due("stand", x.shortest(0), 5);
        c.due("more than it could hold", x.shortest(1), 5);
    }

    @Says(promise = 26, words = "so that at a surge now (an hour of rain 5 without gusts) each person that would borrow"
        + " there, were there enough, gets one")
    static void shortestForThoseThatWouldBorrow(Check c) {
        RibbedLoans x = new RibbedLoans();
        for (int stand = 0; stand < 8; stand++) {
            x.buy(stand, stand == 3 ? 0 : 2);
        }
        c.due("3 and 11 want one", x.shortest(1), 2);
        x.borrow(11, 7);
        c.due("11 has one", x.shortest(1), 1);
        Town.pay(x, 3, 6, 31);
        x.bringBack(11, 3);
        x.load(0, 3, 1);
        c.due("3 is at 6 now, and 11 wants one", x.shortest(0), 3);
        c.due("one", x.shortest(1), 1);
        x.unload(0, 3, 1);
        c.due("11 gets one, and 3 is too poor to lack one at 6", x.shortest(0), NONE);
        Town.waitUntil(x, 500);
        x.load(0, 3, 1);
        c.due("at 500, too", x.shortest(0), 3);
        RibbedLoans y = new RibbedLoans();
        for (int stand = 0; stand < 8; stand++) {
            y.buy(stand, 2);
        }
        y.borrow(5, 5);
        for (int i = 0; i < 6; i++) {
            y.hour(0, 3);
        }
        y.load(0, 5, 1);
        c.due("5 has one, a broken one", y.shortest(0), NONE);
    }

    @Says(promise = 26, words = ", of those to which any have to be.")
    static void shortestOfThoseThatLackAny(Check c) {
        RibbedLoans x = new RibbedLoans();
        for (int stand = 0; stand < 8; stand++) {
            x.buy(stand, stand == 1 ? 1 : 2);
        }
        c.due("0 lacks none", x.shortest(0), 1);
        c.due("one", x.shortest(1), 1);
    }

    @Says(promise = 26, words = "`what`: 0 for the stand (of several the smallest)")
    static void shortestStand(Check c) {
        RibbedLoans x = new RibbedLoans();
        c.due("4 to 7 lack one", x.shortest(0), 4);
        x.buy(4, 1);
        c.due("5 to 7", x.shortest(0), 5);
        x.buy(5, 1);
        x.buy(6, 1);
        c.due("7", x.shortest(0), 7);
        x.buy(7, 1);
        c.due("0 to 3 lack two", x.shortest(0), 0);
    }

    @Says(promise = 26, words = {"1 for the number of umbrellas", "Returns the value"})
    static void shortestNumber(Check c) {
        RibbedLoans x = new RibbedLoans();
        c.due("one", x.shortest(1), 1);
        for (int stand = 4; stand < 8; stand++) {
            x.buy(stand, 1);
        }
        c.due("two", x.shortest(1), 2);
        RibbedLoans y = Town.worn(6, 0, 0, 0, 0, 0, 0);
        for (int stand = 0; stand < 8; stand++) {
            y.buy(stand, stand == 6 ? 0 : 1);
        }
        y.buy(2, 1);
        y.buy(3, 1);
        c.due("7 persons with 6 umbrellas at 6", y.shortest(0), 6);
        y.load(0, 6, 5);
        c.due("now six", y.shortest(1), 6);
    }

    @Says(promise = 26, words = "INVALID_ARGUMENT if what is out of range")
    static void shortestRange(Check c) {
        RibbedLoans x = new RibbedLoans();
        for (int what : new int[] {-1, 2, MIN, MAX}) {
            c.invalid("what " + what, x, () -> x.shortest(what));
        }
    }

    @Says(promise = 26, words = "NONE if there is no such stand.")
    static void shortestNone(Check c) {
        RibbedLoans x = new RibbedLoans();
        for (int stand = 0; stand < 8; stand++) {
            x.buy(stand, stand < 4 ? 2 : 1);
        }
        c.keeps("just enough: no stand", x, () -> x.shortest(0), NONE);
        c.keeps("no number", x, () -> x.shortest(1), NONE);
        for (int what : new int[] {-1, 2}) {
            c.invalid("range first", x, () -> x.shortest(what));
        }
        x.load(0, 0, 1);
        c.due("one too few", x.shortest(0), 0);
    }
}
