/** Promises 7 to 11, and the terms that they rest on: load, unload, toWorkshop, mend, level. */
public final class WorkshopTest {
    private static final int NONE = RibbedLoans.NONE;
    private static final int MIN = Integer.MIN_VALUE;
    private static final int MAX = Integer.MAX_VALUE;

    public static void main(String[] args) {
        Sentences.run(WorkshopTest.class);
    }

    private static void inVan(Check c, RibbedLoans x, int van, int... umbrellas) {
        for (int place = 0; place < umbrellas.length; place++) {
            c.due("in van " + van + ", " + place, x.inVan(van, place), umbrellas[place]);
        }
        c.due("no more in van " + van, x.inVan(van, umbrellas.length), NONE);
    }

    private static void inStands(Check c, RibbedLoans x, int... umbrellas) {
        for (int stand = 0; stand < umbrellas.length; stand++) {
            c.due("in stand " + stand, x.stand(stand, 1), umbrellas[stand]);
        }
    }

    // ---- terms

    @Says(words = ", each of which holds at most 10.")
    static void tenInAVan(Check c) {
        for (int van = 0; van < 2; van++) {
            int v = van;
            RibbedLoans x = new RibbedLoans();
            x.set(0, 20);
            x.buy(0, 20);
            c.due("nine", x.load(v, 0, 9), 0);
            c.exceeded("11", x, () -> x.load(v, 0, 2));
            c.due("ten", x.load(v, 0, 1), 0);
            c.exceeded("11", x, () -> x.load(v, 0, 1));
            c.due("ten more in the other", x.load(1 - v, 0, 10), 0);
            c.due("in vans", x.count(4), 20);
        }
    }

    @Says(words = "A van can take umbrellas out of a stand, the worst ones first")
    static void theWorstOnesFirst(Check c) {
        RibbedLoans x = Town.worn(5, 7, 40, 8, 31, 8, 0);
        x.load(0, 5, 1);
        inVan(c, x, 0, 1);
        x.load(0, 5, 2);
        inVan(c, x, 0, 1, 2, 3);
        x.load(1, 5, 2);
        inVan(c, x, 1, 0, 4);
    }

    @Says(words = "and put umbrellas into a stand, those that are not broken, by their numbers")
    static void wholeOnesByTheirNumbers(Check c) {
        RibbedLoans x = Town.worn(5, 20, 40, 8, 31, 0);
        x.load(0, 5, 5);
        c.due("two of them", x.unload(0, 3, 2), 3);
        inVan(c, x, 0, 1, 3, 4);
        c.due("0", x.umbrella(0, 1), 3);
        c.due("2, not the less worn 4", x.umbrella(2, 1), 3);
    }

    @Says(words = "it can take all that are in it and broken into the workshop.")
    static void allBrokenOnesIntoTheWorkshop(Check c) {
        RibbedLoans x = Town.worn(5, 31, 32, 64, 40, 0);
        x.load(0, 5, 2);
        x.load(1, 5, 3);
        x.toWorkshop(1);
        inVan(c, x, 0, 2, 3);
        inVan(c, x, 1, 0, 4);
        c.due("32 is broken", x.umbrella(1, 0), 3);
        c.due("in the workshop", x.count(5), 1);
        x.toWorkshop(0);
        c.due("in the workshop", x.count(5), 3);
        inVan(c, x, 0);
    }

    @Says(words = "To level means: as long as there is a stand with at least 2 umbrellas (broken ones, too)"
        + " more than another one that has room")
    static void levelFromTwoMore(Check c) {
        RibbedLoans x = new RibbedLoans();
        for (int stand = 0; stand < 8; stand++) {
            x.buy(stand, stand == 3 ? 2 : 1);
        }
        c.due("one more", x.level(), 0);
        x.buy(3, 1);
        c.due("two more", x.level(), 1);
        inStands(c, x, 2, 1, 1, 2, 1, 1, 1, 1);
        RibbedLoans y = Town.worn(3, 40, 40, 0);
        for (int stand = 0; stand < 8; stand++) {
            if (stand != 3) {
                y.buy(stand, 1);
            }
        }
        c.due("broken ones count", y.level(), 1);
        inStands(c, y, 2, 1, 1, 2, 1, 1, 1, 1);
        RibbedLoans z = Town.worn(3, 40, 0);
        for (int stand = 0; stand < 8; stand++) {
            z.buy(stand, stand == 3 ? 0 : stand == 6 ? 3 : 2);
        }
        c.due("where one would come to, too", z.level(), 0);
    }

    @Says(words = "more than another one that has room, the best umbrella")
    static void levelOnlyWhereThereIsRoom(Check c) {
        RibbedLoans x = new RibbedLoans();
        for (int stand = 0; stand < 8; stand++) {
            x.set(stand, 1);
            x.buy(stand, 1);
        }
        x.set(4, 8);
        x.buy(4, 4);
        c.due("all others are full", x.level(), 0);
        x.set(6, 2);
        c.due("one place", x.level(), 1);
        x.set(6, 20);
        c.due("places enough", x.level(), 1);
        inStands(c, x, 1, 1, 1, 1, 3, 1, 3, 1);
        RibbedLoans y = new RibbedLoans();
        for (int stand = 0; stand < 8; stand++) {
            y.set(stand, stand == 4 ? 5 : 1);
            y.buy(stand, stand == 4 ? 5 : 1);
        }
        c.due("no room anywhere", y.level(), 0);
        inStands(c, y, 1, 1, 1, 1, 5, 1, 1, 1);
    }

    @Says(words = "the best umbrella of the fullest stand (of several the smallest stand)")
    static void levelFromTheFullest(Check c) {
        RibbedLoans x = Town.worn(3, 9, 5, 7);
        x.buy(5, 3);
        for (int stand = 0; stand < 8; stand++) {
            if (stand != 3 && stand != 5) {
                x.buy(stand, 1);
            }
        }
        x.set(0, 1);
        x.set(1, 1);
        c.due("moved", x.level(), 2);
        c.due("the best of 3 first", x.umbrella(1, 1), 2);
        c.due("the best of 5 then", x.umbrella(3, 1), 4);
        RibbedLoans y = new RibbedLoans();
        y.buy(1, 4);
        y.buy(6, 6);
        // The number tells which is fuller, not how much of the room is left.
        y.set(1, 4);
        y.set(6, 20);
        c.due("moved", y.level(), 6);
        c.due("the fullest before a smaller one", y.umbrella(4, 1), 0);
        c.due("again", y.umbrella(5, 1), 2);
        c.due("1 of two with four", y.umbrella(0, 1), 3);
        for (int stand = 0; stand < 8; stand += 7) {
            RibbedLoans z = new RibbedLoans();
            z.buy(stand, 3);
            c.due("from the first or the last stand alone", z.level(), 2);
            c.due("its best one", z.umbrella(0, 1), stand == 0 ? 1 : 0);
            c.due("one is left", z.stand(stand, 1), 1);
        }
        firstAndLastAlike(c);
    }

    private static void firstAndLastAlike(Check c) {
        RibbedLoans x = new RibbedLoans();
        x.buy(7, 3);
        x.buy(0, 3);
        for (int stand = 1; stand < 7; stand++) {
            x.buy(stand, stand == 3 ? 1 : 2);
        }
        c.due("moved", x.level(), 1);
        c.due("0 of 0 and 7 gives", x.umbrella(3, 1), 3);
    }

    @Says(words = "goes to the emptiest one with room (of several the smallest stand)")
    static void levelToTheEmptiest(Check c) {
        RibbedLoans x = new RibbedLoans();
        x.buy(7, 8);
        x.buy(0, 2);
        x.buy(1, 1);
        x.set(1, 1);
        x.buy(2, 1);
        c.due("moved", x.level(), 6);
        int[] want = {3, 4, 5, 6, 2, 3};
        for (int i = 0; i < want.length; i++) {
            c.due("goes to", x.umbrella(i, 1), want[i]);
        }
        inStands(c, x, 2, 1, 2, 2, 1, 1, 1, 2);
        emptiestWithBrokenOnes(c);
    }

    private static void emptiestWithBrokenOnes(Check c) {
        RibbedLoans y = Town.worn(0, 40, 40);
        for (int stand = 1; stand < 8; stand++) {
            y.buy(stand, stand == 7 ? 3 : 1);
        }
        c.due("to 1, though 0 has none that is whole", y.level(), 1);
        inStands(c, y, 2, 2, 1, 1, 1, 1, 1, 2);
        RibbedLoans z = Town.worn(1, 40);
        for (int stand = 0; stand < 8; stand++) {
            z.buy(stand, stand == 1 ? 0 : stand == 7 ? 3 : 1);
        }
        c.due("to 0, though 1 has none that is whole", z.level(), 1);
        inStands(c, z, 2, 1, 1, 1, 1, 1, 1, 2);
    }

    @Says(words = "if the fullest stand has no best one, levelling ends.")
    static void levelEndsWithoutABestOne(Check c) {
        RibbedLoans x = Town.worn(3, 40, 40, 40, 40, 0);
        x.buy(6, 4);
        c.due("the one whole one goes", x.level(), 1);
        c.due("to 0", x.umbrella(4, 1), 0);
        inStands(c, x, 1, 0, 0, 4, 0, 0, 4, 0);
        c.due("the fullest is 3, with four broken ones", x.level(), 0);
        x.buy(6, 1);
        c.due("now it is 6, until 3 is the fullest again", x.level(), 1);
        inStands(c, x, 1, 1, 0, 4, 0, 0, 4, 0);
    }

    @Says(words = "To mend means to make one umbrella out of the two in the workshop that have the least wear")
    static void mendTheTwoLeastWorn(Check c) {
        RibbedLoans x = Town.worn(2, 36, 60, 32, 50);
        Town.bringBroken(x, 2);
        c.due("0 out of 0 and 2", x.mend(2), 0);
        c.due("0", x.umbrella(0, 0), 0);
        c.due("2", x.umbrella(2, 0), 4);
        c.due("1 stays", x.umbrella(1, 0), 3);
        c.due("3 stays", x.umbrella(3, 0), 3);
    }

    @Says(words = "(of several those with smaller numbers)")
    static void mendThoseWithSmallerNumbers(Check c) {
        RibbedLoans x = Town.worn(2, 40, 34, 40, 40, 34, 34);
        Town.bringBroken(x, 2);
        c.due("1 out of 1 and 4", x.mend(2), 1);
        c.due("4", x.umbrella(4, 0), 4);
        c.due("5 stays", x.umbrella(5, 0), 3);
        c.due("0 out of 5 and 0", x.mend(2), 0);
        c.due("5", x.umbrella(5, 0), 4);
        c.due("2 out of 2 and 3", x.mend(2), 2);
        c.due("3", x.umbrella(3, 0), 4);
    }

    @Says(words = "the one of these with the smaller number is mended")
    static void mendTheSmallerNumber(Check c) {
        RibbedLoans x = Town.worn(2, 64, 32);
        Town.bringBroken(x, 2);
        c.due("0, though it is the more worn one", x.mend(2), 0);
        RibbedLoans y = Town.worn(2, 32, 64);
        Town.bringBroken(y, 2);
        c.due("0, the less worn one", y.mend(2), 0);
    }

    @Says(words = "its wear becomes the lesser wear of both times 0.25, cut down to a multiple of one eighth")
    static void mendedWear(Check c) {
        int[][] rows = {{32, 64, 8}, {64, 32, 8}, {33, 33, 8}, {35, 64, 8}, {64, 36, 9}, {40, 40, 10}, {63, 64, 15},
            {64, 64, 16}};
        for (int[] row : rows) {
            RibbedLoans x = Town.worn(2, row[0], row[1]);
            Town.bringBroken(x, 2);
            x.mend(2);
            c.due("wear out of " + row[0] + " and " + row[1], x.umbrella(0, 2), row[2]);
            c.due("is whole", x.umbrella(0, 3), 0);
        }
    }

    @Says(words = "the other one is scrapped.")
    static void mendScrapsTheOther(Check c) {
        RibbedLoans x = Town.worn(2, 40, 50);
        Town.bringBroken(x, 2);
        x.mend(2);
        c.due("place", x.umbrella(1, 0), 4);
        c.due("nobody's", x.umbrella(1, 1), NONE);
        c.due("scrapped", x.count(6), 1);
        c.due("it keeps its number", x.buy(2, 1), 2);
    }

    @Says(words = "It costs 3 coins of the house.")
    static void mendCosts3(Check c) {
        RibbedLoans x = Town.worn(2, 40, 50);
        Town.bringBroken(x, 2);
        c.due("house before", x.count(8), 98);
        c.due("spent before", x.count(10), 10);
        x.mend(2);
        c.due("house", x.count(8), 95);
        c.due("spent", x.count(10), 13);
        c.due("no fee", x.count(11), 8);
    }

    @Says(words = "The mended one goes into the stand that is told.")
    static void mendIntoTheStand(Check c) {
        for (int stand = 0; stand < 8; stand++) {
            RibbedLoans x = Town.worn(2, 40, 50);
            Town.bringBroken(x, 2);
            x.mend(stand);
            c.due("place", x.umbrella(0, 0), 0);
            c.due("stand", x.umbrella(0, 1), stand);
            c.due("there", x.stand(stand, 1), 1);
        }
    }

    // ---- load

    @Says(promise = 7, words = "Lets a van take umbrellas out of a stand.")
    static void loadTakesThemOut(Check c) {
        RibbedLoans x = new RibbedLoans();
        x.buy(4, 5);
        x.load(1, 4, 3);
        c.due("left", x.stand(4, 1), 2);
        c.due("in vans", x.count(4), 3);
        c.due("place", x.umbrella(2, 0), 2);
        c.due("which van", x.umbrella(2, 1), 1);
        inVan(c, x, 0);
        inVan(c, x, 1, 0, 1, 2);
    }

    @Says(promise = 7, words = "This is an action.")
    static void loadIsAnAction(Check c) {
        RibbedLoans x = new RibbedLoans();
        x.buy(4, 5);
        c.isAction("load(1, 4, 3)", x, () -> x.load(1, 4, 3));
    }

    @Says(promise = 7, words = "`van`: 0 or 1")
    static void loadVans(Check c) {
        RibbedLoans x = new RibbedLoans();
        x.buy(4, 5);
        for (int van : new int[] {-1, 2, MIN, MAX}) {
            c.invalid("van " + van, x, () -> x.load(van, 4, 1));
        }
        c.due("van 0", x.load(0, 4, 1), 0);
        c.due("van 1", x.load(1, 4, 1), 0);
    }

    @Says(promise = 7, words = "`stand`: 0 to 7")
    static void loadStands(Check c) {
        RibbedLoans x = new RibbedLoans();
        for (int stand = 0; stand < 8; stand++) {
            x.buy(stand, 1);
            c.due("stand " + stand, x.load(0, stand, 1), 0);
        }
        for (int stand : new int[] {-1, 8, MIN, MAX}) {
            c.invalid("stand " + stand, x, () -> x.load(0, stand, 1));
        }
    }

    @Says(promise = 7, words = "`many`: 1 to 10")
    static void load1To10(Check c) {
        RibbedLoans x = new RibbedLoans();
        x.set(4, 20);
        x.buy(4, 20);
        for (int many : new int[] {0, 11, -1, MIN, MAX}) {
            c.invalid("many " + many, x, () -> x.load(0, 4, many));
        }
        c.due("1", x.load(0, 4, 1), 0);
        c.due("10", x.load(1, 4, 10), 0);
    }

    @Says(promise = 7, words = "Returns the number of those of them that are broken")
    static void loadReturnsTheBroken(Check c) {
        RibbedLoans x = Town.worn(4, 31, 40, 32, 0, 50);
        c.due("2 of 2", x.load(0, 4, 2), 2);
        c.due("1 of 2", x.load(0, 4, 2), 1);
        c.due("0 of 1", x.load(0, 4, 1), 0);
    }

    @Says(promise = 7, words = "INVALID_ARGUMENT if an argument is out of range")
    static void loadRangeComesFirst(Check c) {
        RibbedLoans x = new RibbedLoans();
        c.invalid("before an empty stand", x, () -> x.load(0, 0, 11));
        c.invalid("before an empty stand", x, () -> x.load(2, 0, 1));
        x.set(4, 20);
        x.buy(4, 20);
        x.load(0, 4, 10);
        c.invalid("before a full van", x, () -> x.load(0, 4, 0));
        c.invalid("before a full van", x, () -> x.load(0, 8, 1));
    }

    @Says(promise = 7, words = "ILLEGAL_STATE if not so many are in the stand")
    static void loadNotMoreThanAreThere(Check c) {
        RibbedLoans x = Town.worn(4, 40, 0, 0);
        c.illegal("an empty stand", x, () -> x.load(0, 5, 1));
        c.illegal("one more than there are", x, () -> x.load(0, 4, 4));
        x.borrow(11, 4);
        c.illegal("a lent one is not there", x, () -> x.load(0, 4, 3));
        c.due("all, a broken one too", x.load(0, 4, 2), 1);
        c.illegal("none is left", x, () -> x.load(0, 4, 1));
    }

    @Says(promise = 7, words = "ILLEGAL_STATE if not so many are in the stand; CAPACITY_EXCEEDED")
    static void loadStandComesBeforeVan(Check c) {
        RibbedLoans x = new RibbedLoans();
        x.set(4, 20);
        x.buy(4, 12);
        x.load(0, 4, 9);
        c.illegal("four of three, and ten in the van", x, () -> x.load(0, 4, 4));
        c.exceeded("three of three", x, () -> x.load(0, 4, 3));
    }

    @Says(promise = 7, words = "CAPACITY_EXCEEDED if the van does not hold so many.")
    static void loadNotMoreThanTheVanHolds(Check c) {
        RibbedLoans x = Town.worn(4, 40, 40, 0, 0, 0, 0, 0, 0, 0, 0, 0, 0);
        x.buy(4, 1);
        x.load(0, 4, 6);
        c.exceeded("11, with broken ones", x, () -> x.load(0, 4, 5));
        c.due("10", x.load(0, 4, 4), 0);
        c.exceeded("full", x, () -> x.load(0, 4, 1));
        c.due("the other van", x.load(1, 4, 3), 0);
        x.toWorkshop(0);
        x.unload(1, 4, 3);
        c.exceeded("one too many again", x, () -> x.load(0, 4, 3));
        c.due("two places are free again", x.load(0, 4, 2), 0);
    }

    // ---- unload

    @Says(promise = 8, words = "Lets a van put umbrellas into a stand.")
    static void unloadPutsThemIn(Check c) {
        RibbedLoans x = new RibbedLoans();
        x.buy(4, 5);
        x.load(1, 4, 5);
        x.unload(1, 6, 2);
        c.due("there", x.stand(6, 1), 2);
        c.due("in vans", x.count(4), 3);
        c.due("place", x.umbrella(1, 0), 0);
        c.due("stand", x.umbrella(1, 1), 6);
        inVan(c, x, 1, 2, 3, 4);
    }

    @Says(promise = 8, words = "This is an action.")
    static void unloadIsAnAction(Check c) {
        RibbedLoans x = new RibbedLoans();
        x.buy(4, 5);
        x.load(1, 4, 5);
        c.isAction("unload(1, 6, 2)", x, () -> x.unload(1, 6, 2));
    }

    @Says(promise = 8, words = "`van`: 0 or 1")
    static void unloadVans(Check c) {
        RibbedLoans x = new RibbedLoans();
        x.buy(4, 5);
        x.load(0, 4, 2);
        x.load(1, 4, 3);
        for (int van : new int[] {-1, 2, MIN, MAX}) {
            c.invalid("van " + van, x, () -> x.unload(van, 4, 1));
        }
        c.due("van 0", x.unload(0, 4, 1), 1);
        c.due("van 1", x.unload(1, 4, 1), 2);
    }

    @Says(promise = 8, words = "`stand`: 0 to 7")
    static void unloadStands(Check c) {
        RibbedLoans x = new RibbedLoans();
        x.set(4, 20);
        x.buy(4, 9);
        x.load(0, 4, 9);
        for (int stand = 0; stand < 8; stand++) {
            c.due("stand " + stand, x.unload(0, stand, 1), 8 - stand);
            c.due("there", x.umbrella(stand, 1), stand);
        }
        for (int stand : new int[] {-1, 8, MIN, MAX}) {
            c.invalid("stand " + stand, x, () -> x.unload(0, stand, 1));
        }
    }

    @Says(promise = 8, words = "`many`: 1 to 10")
    static void unload1To10(Check c) {
        RibbedLoans x = new RibbedLoans();
        x.set(4, 20);
        x.buy(4, 11);
        x.load(0, 4, 10);
        for (int many : new int[] {0, 11, -1, MIN, MAX}) {
            c.invalid("many " + many, x, () -> x.unload(0, 4, many));
        }
        c.due("1", x.unload(0, 4, 1), 9);
        x.load(0, 4, 1);
        c.due("10", x.unload(0, 4, 10), 0);
    }

    @Says(promise = 8, words = "Returns the number of umbrellas that are left in the van")
    static void unloadReturnsWhatIsLeft(Check c) {
        RibbedLoans x = Town.worn(4, 40, 0, 41, 0, 0);
        x.load(0, 4, 5);
        c.due("broken ones, too", x.unload(0, 4, 1), 4);
        c.due("none but broken ones", x.unload(0, 4, 2), 2);
    }

    @Says(promise = 8, words = "INVALID_ARGUMENT if an argument is out of range")
    static void unloadRangeComesFirst(Check c) {
        RibbedLoans x = new RibbedLoans();
        c.invalid("before an empty van", x, () -> x.unload(0, 0, 11));
        c.invalid("before an empty van", x, () -> x.unload(0, -1, 1));
        x.buy(4, 2);
        x.load(0, 4, 1);
        x.set(4, 1);
        c.invalid("before a full stand", x, () -> x.unload(0, 4, 0));
    }

    @Says(promise = 8, words = "ILLEGAL_STATE if not so many that are not broken are in the van")
    static void unloadNotMoreWholeOnesThanAreThere(Check c) {
        RibbedLoans x = Town.worn(4, 40, 31, 32, 0);
        c.illegal("an empty van", x, () -> x.unload(0, 5, 1));
        x.load(0, 4, 4);
        c.illegal("the other van", x, () -> x.unload(1, 5, 1));
        c.illegal("three of two", x, () -> x.unload(0, 5, 3));
        c.due("two of two", x.unload(0, 5, 2), 2);
        c.illegal("none but broken ones", x, () -> x.unload(0, 5, 1));
    }

    @Says(promise = 8, words = "are in the van; CAPACITY_EXCEEDED")
    static void unloadVanComesBeforeStand(Check c) {
        RibbedLoans x = new RibbedLoans();
        x.buy(4, 3);
        x.load(0, 4, 2);
        x.set(4, 1);
        c.illegal("three of two into a full stand", x, () -> x.unload(0, 4, 3));
        c.exceeded("two of two", x, () -> x.unload(0, 4, 2));
    }

    @Says(promise = 8, words = "CAPACITY_EXCEEDED if there is not so much room in the stand.")
    static void unloadNotMoreThanTheRoom(Check c) {
        RibbedLoans x = Town.worn(4, 40, 0, 0, 0, 0);
        x.load(0, 4, 5);
        x.unload(0, 4, 1);
        x.set(4, 3);
        c.exceeded("three, with room for two", x, () -> x.unload(0, 4, 3));
        c.due("two", x.unload(0, 4, 2), 2);
        c.exceeded("full", x, () -> x.unload(0, 4, 1));
        c.due("another stand", x.unload(0, 5, 1), 1);
    }

    // ---- toWorkshop

    @Says(promise = 9, words = "Lets a van take all broken ones into the workshop.")
    static void toWorkshopTakesAllBroken(Check c) {
        RibbedLoans x = Town.worn(4, 32, 0, 31, 64);
        x.load(1, 4, 4);
        x.toWorkshop(1);
        inVan(c, x, 1, 1, 2);
        for (int u = 0; u < 4; u++) {
            boolean taken = u == 0 || u == 3;
            c.due("place of " + u, x.umbrella(u, 0), taken ? 3 : 2);
            c.due("whose is " + u, x.umbrella(u, 1), taken ? NONE : 1);
        }
        c.due("in the workshop", x.count(5), 2);
    }

    @Says(promise = 9, words = "This is an action.")
    static void toWorkshopIsAnAction(Check c) {
        RibbedLoans x = Town.worn(4, 32, 0, 31, 64);
        x.load(1, 4, 4);
        c.isAction("toWorkshop(1)", x, () -> x.toWorkshop(1));
    }

    @Says(promise = 9, words = {"`van`: 0 or 1", "INVALID_ARGUMENT if van is out of range"})
    static void toWorkshopVans(Check c) {
        RibbedLoans x = Town.worn(4, 40, 40);
        for (int van : new int[] {-1, 2, MIN, MAX}) {
            c.invalid("van " + van + ", before there is none", x, () -> x.toWorkshop(van));
        }
        x.load(0, 4, 1);
        x.load(1, 4, 1);
        c.invalid("van 2", x, () -> x.toWorkshop(2));
        c.due("van 0", x.toWorkshop(0), 1);
        c.due("van 1", x.toWorkshop(1), 1);
    }

    @Says(promise = 9, words = "Returns how many these are")
    static void toWorkshopReturnsHowMany(Check c) {
        RibbedLoans x = Town.worn(4, 40, 40, 40, 0);
        x.load(0, 4, 4);
        c.due("three", x.toWorkshop(0), 3);
    }

    @Says(promise = 9, words = "ILLEGAL_STATE if there is none.")
    static void toWorkshopNeedsABrokenOne(Check c) {
        RibbedLoans x = Town.worn(4, 31, 40);
        c.illegal("an empty van", x, () -> x.toWorkshop(0));
        x.load(1, 4, 1);
        x.load(0, 4, 1);
        c.illegal("none but a whole one", x, () -> x.toWorkshop(0));
        x.toWorkshop(1);
        c.illegal("a second time", x, () -> x.toWorkshop(1));
    }

    // ---- mend

    @Says(promise = 10, words = "Mends.")
    static void mendMends(Check c) {
        RibbedLoans x = Town.worn(4, 44, 60);
        Town.bringBroken(x, 4);
        x.mend(1);
        c.due("wear", x.umbrella(0, 2), 11);
        c.due("in stands", x.count(2), 1);
        c.due("in the workshop", x.count(5), 0);
        c.due("scrapped", x.count(6), 1);
        c.due("lent anew", x.borrow(11, 1), 0);
    }

    @Says(promise = 10, words = "This is an action.")
    static void mendIsAnAction(Check c) {
        RibbedLoans x = Town.worn(4, 44, 60);
        Town.bringBroken(x, 4);
        c.isAction("mend(1)", x, () -> x.mend(1));
    }

    @Says(promise = 10, words = {"`stand`: 0 to 7", "INVALID_ARGUMENT if stand is out of range"})
    static void mendStands(Check c) {
        RibbedLoans x = Town.worn(4, 44, 60, 60, 60);
        for (int stand : new int[] {-1, 8, MIN, MAX}) {
            c.invalid("stand " + stand + ", before the workshop is empty", x, () -> x.mend(stand));
        }
        Town.bringBroken(x, 4);
        c.invalid("stand 8", x, () -> x.mend(8));
        c.due("stand 0", x.mend(0), 0);
        c.due("stand 7", x.mend(7), 2);
    }

    @Says(promise = 10, words = "Returns the mended umbrella")
    static void mendReturnsTheMended(Check c) {
        RibbedLoans x = Town.worn(4, 0, 60, 40, 50);
        Town.bringBroken(x, 4);
        c.due("2 out of 2 and 3", x.mend(4), 2);
    }

    @Says(promise = 10, words = "ILLEGAL_STATE if fewer than two umbrellas are in the workshop")
    static void mendNeedsTwo(Check c) {
        RibbedLoans x = Town.worn(4, 40, 40, 40);
        c.illegal("none", x, () -> x.mend(4));
        x.load(0, 4, 1);
        x.toWorkshop(0);
        x.load(0, 4, 1);
        c.illegal("one, and one in a van", x, () -> x.mend(4));
        x.toWorkshop(0);
        c.due("two", x.mend(4), 0);
        x.load(0, 4, 1);
        x.toWorkshop(0);
        c.illegal("one, and a scrapped one", x, () -> x.mend(4));
    }

    @Says(promise = 10, words = "or the house cannot spend 3 coins")
    static void mendNeedsThreeCoins(Check c) {
        for (int coins = 2; coins <= 3; coins++) {
            RibbedLoans x = Town.worn(4, 40, 40, 0, 0);
            Town.bringBroken(x, 4);
            Town.leaveHouse(x, 4, coins);
            c.due("house", x.count(8), coins);
            x.borrow(3, 4);
            c.due("with a deposit", x.count(8), coins + 10);
            if (coins == 2) {
                c.illegal("2 coins", x, () -> x.mend(4));
            } else {
                c.due("3 coins", x.mend(4), 0);
                c.due("the deposit is left", x.count(8), 10);
            }
        }
    }

    @Says(promise = 10, words = "cannot spend 3 coins; CAPACITY_EXCEEDED")
    static void mendWorkshopAndCoinsComeBeforeRoom(Check c) {
        RibbedLoans x = Town.worn(4, 40, 40, 0);
        x.set(4, 3);
        c.illegal("nothing to mend, no room", x, () -> x.mend(4));
        x.set(4, 20);
        Town.bringBroken(x, 4);
        Town.leaveHouse(x, 4, 0);
        x.set(4, 1);
        c.illegal("no coins, no room", x, () -> x.mend(4));
    }

    @Says(promise = 10, words = "CAPACITY_EXCEEDED if the stand is full.")
    static void mendNeedsRoom(Check c) {
        RibbedLoans x = Town.worn(4, 50, 40, 40, 0);
        x.load(0, 4, 1);
        x.toWorkshop(0);
        x.load(0, 4, 1);
        x.toWorkshop(0);
        x.set(4, 2);
        c.exceeded("full, with a broken one there", x, () -> x.mend(4));
        x.set(4, 3);
        c.due("the last place", x.mend(4), 0);
        c.due("full now", x.stand(4, 1), 3);
    }

    // ---- level

    @Says(promise = 11, words = "Levels the stands.")
    static void levelLevels(Check c) {
        RibbedLoans x = new RibbedLoans();
        x.set(7, 20);
        x.buy(7, 20);
        x.level();
        inStands(c, x, 3, 3, 3, 2, 2, 2, 2, 3);
        c.due("only in stands", x.count(2), 20);
    }

    @Says(promise = 11, words = "This is an action.")
    static void levelIsAnAction(Check c) {
        RibbedLoans x = new RibbedLoans();
        c.isAction("level(), which changes nothing", x, x::level);
        x.buy(7, 8);
        c.isAction("level()", x, x::level);
    }

    @Says(promise = 11, words = "Returns the number of umbrellas that are moved.")
    static void levelReturnsHowManyMove(Check c) {
        RibbedLoans x = new RibbedLoans();
        c.due("nothing there", x.level(), 0);
        x.buy(2, 1);
        c.due("one", x.level(), 0);
        x.buy(2, 1);
        c.due("two", x.level(), 1);
        x.buy(2, 7);
        c.due("eight more", x.level(), 6);
        c.due("again", x.level(), 0);
    }
}
