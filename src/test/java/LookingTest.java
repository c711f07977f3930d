import java.util.Arrays;

/** Promises 18 to 22: count, umbrella, stand, person, inVan. */
public final class LookingTest {
    private static final int NONE = RibbedLoans.NONE;
    private static final int MIN = Integer.MIN_VALUE;
    private static final int MAX = Integer.MAX_VALUE;

    public static void main(String[] args) {
        Sentences.run(LookingTest.class);
    }

    /**
     * Umbrellas at every place, in the order of their numbers: mended in the stand 6, scrapped, in the workshop, in the
     * van 1 (broken), in the stand 0 (wear 12), in the hand of the person 10 (wear 14), in the van 1 (wear 20).
     */
    private static RibbedLoans town() {
        RibbedLoans x = Town.worn(0, 40, 50, 60, 33, 12, 7, 20);
        x.load(0, 0, 3);
        x.toWorkshop(0);
        x.mend(6);
        x.load(1, 0, 2);
        x.borrow(10, 0);
        x.hour(4, 1);
        x.hour(1, 0);
        return x;
    }

    private static void rowOf(Check c, String label, int[] want, int[] got) {
        for (int i = 0; i < want.length; i++) {
            c.due(label + " " + i, got[i], want[i]);
        }
    }

    // ---- count

    @Says(promise = 18, words = "Returns a number.")
    static void countReturnsANumber(Check c) {
        RibbedLoans x = Town.worn(3, 9, 40);
        x.hour(6, 0);
        for (int what = 0; what < 18; what++) {
            int w = what;
            int number = x.count(w);
            c.holds("count " + w + " is no error", number >= 0);
            c.keeps("count " + w + " again", x, () -> x.count(w), number);
        }
    }

    @Says(promise = 18, words = "- `what`: 0 the present hour")
    static void countHours(Check c) {
        RibbedLoans x = new RibbedLoans();
        c.due("at first", x.count(0), 0);
        Town.waitUntil(x, 500);
        c.due("at the end", x.count(0), 500);
    }

    @Says(promise = 18, words = {"1 the number of umbrellas", "2 of those in stands", "3 in hands", "4 in vans",
        "5 in the workshop", "6 of scrapped ones"})
    static void countUmbrellas(Check c) {
        RibbedLoans x = Town.worn(3, 40, 40, 40, 40, 40, 0, 0, 0, 0);
        rowOf(c, "in one stand", new int[] {9, 9, 0, 0, 0, 0}, places(x));
        Town.bringBroken(x, 3);
        rowOf(c, "in the workshop", new int[] {9, 4, 0, 0, 5, 0}, places(x));
        x.mend(0);
        x.mend(7);
        rowOf(c, "two mended", new int[] {9, 6, 0, 0, 1, 2}, places(x));
        x.borrow(0, 3);
        x.borrow(11, 0);
        x.borrow(5, 7);
        rowOf(c, "three lent", new int[] {9, 3, 3, 0, 1, 2}, places(x));
        x.load(0, 3, 2);
        x.load(1, 3, 1);
        rowOf(c, "both vans", new int[] {9, 0, 3, 3, 1, 2}, places(x));
        x.buy(7, 1);
        rowOf(c, "scrapped ones count among all", new int[] {10, 1, 3, 3, 1, 2}, places(x));
    }

    private static int[] places(RibbedLoans x) {
        return new int[] {x.count(1), x.count(2), x.count(3), x.count(4), x.count(5), x.count(6)};
    }

    @Says(promise = 18, words = "7 of broken ones (but for scrapped ones)")
    static void countBroken(Check c) {
        RibbedLoans x = Town.worn(3, 31, 32, 40, 41, 64, 0);
        c.due("in a stand", x.count(7), 4);
        x.load(1, 3, 2);
        c.due("in a van", x.count(7), 4);
        x.toWorkshop(1);
        c.due("in the workshop", x.count(7), 4);
        x.mend(3);
        c.due("one mended, one scrapped", x.count(7), 2);
        x.borrow(11, 3);
        x.borrow(10, 3);
        x.borrow(9, 3);
        c.due("three lent", x.hour(1, 0), 1);
        c.due("in a hand", x.count(7), 3);
    }

    @Says(promise = 18, words = {"8 the coins of the house", "9 of all persons together"})
    static void countCoins(Check c) {
        RibbedLoans x = new RibbedLoans();
        x.buy(2, 3);
        c.due("house after buying", x.count(8), 85);
        c.due("persons", x.count(9), 480);
        x.borrow(0, 2);
        x.borrow(11, 2);
        c.due("house with deposits", x.count(8), 105);
        c.due("persons", x.count(9), 460);
        x.hour(2, 0);
        x.bringBack(11, 2);
        c.due("house with a fee", x.count(8), 96);
        c.due("persons", x.count(9), 469);
    }

    @Says(promise = 18, words = "10 the coins spent on umbrellas and mending so far")
    static void countSpent(Check c) {
        RibbedLoans x = Town.worn(2, 40, 40, 40);
        c.due("three umbrellas", x.count(10), 15);
        Town.bringBroken(x, 2);
        x.mend(2);
        c.due("and mending", x.count(10), 18);
        x.buy(7, 2);
        x.borrow(5, 2);
        x.bringBack(5, 2);
        c.due("and two more", x.count(10), 28);
    }

    @Says(promise = 18, words = {"11 the fees so far", "12 the number of loans so far"})
    static void countFeesAndLoans(Check c) {
        RibbedLoans x = new RibbedLoans();
        x.buy(2, 3);
        x.buy(0, 1);
        x.borrow(0, 2);
        x.hour(4, 0);
        c.due("no fee before it is back", x.count(11), 0);
        c.due("the loan begins before", x.count(12), 1);
        x.bringBack(0, 2);
        x.hour(5, 0);
        c.due("loans by a surge: 0, 2 and 10 at 2, and 8 at 0", x.count(12), 5);
        x.hour(4, 0);
        x.bringBack(2, 2);
        x.bringBack(0, 2);
        c.due("fees of all", x.count(11), 3);
        c.due("loans that ended count, too", x.count(12), 5);
    }

    @Says(promise = 18, words = {"13 of surges so far", "14 the rate"})
    static void countSurgesAndRate(Check c) {
        RibbedLoans x = new RibbedLoans();
        x.hour(4, 3);
        c.due("rain 4", x.count(13), 0);
        x.hour(5, 0);
        x.hour(9, 0);
        c.due("two, though nobody borrows", x.count(13), 2);
        c.due("rate at first", x.count(14), 1);
        x.set(8, 0);
        c.due("rate", x.count(14), 0);
    }

    @Says(promise = 18, words = {"15 the number of snapshots", "16 of states in the history",
        "17 the length of the text"})
    static void countSnapshotsStatesCharacters(Check c) {
        RibbedLoans x = new RibbedLoans();
        x.take(1);
        c.due("one snapshot", x.count(15), 1);
        x.take(1);
        c.due("still one", x.count(15), 1);
        x.take(0);
        c.due("two", x.count(15), 2);
        c.due("states", x.count(16), 3);
        for (int i = 0; i < 4; i++) {
            x.level();
        }
        c.due("five states", x.count(16), 5);
        Town.write(x, "abc");
        c.due("characters", x.count(17), 3);
    }

    @Says(promise = 18, words = {"Returns the number", "INVALID_ARGUMENT if what is out of range."})
    static void countRange(Check c) {
        RibbedLoans x = new RibbedLoans();
        c.due("least", x.count(0), 0);
        c.due("most", x.count(17), 0);
        for (int what : new int[] {-1, 18, MIN, MAX}) {
            c.invalid("what " + what, x, () -> x.count(what));
        }
    }

    // ---- umbrella

    @Says(promise = 19, words = {"Tells about an umbrella.", "Returns the value"})
    static void umbrellaTells(Check c) {
        RibbedLoans x = town();
        int[][] want = {{0, 6, 10, 0, 2}, {4, NONE, 50, 1, 2}, {3, NONE, 60, 1, 2}, {2, 1, 33, 1, 1}, {0, 0, 12, 0, 2},
            {1, 10, 14, 0, 2}, {2, 1, 20, 0, 2}};
        for (int u = 0; u < want.length; u++) {
            for (int what = 0; what < 5; what++) {
                int w = what;
                int number = u;
                c.keeps("umbrella " + u + ", " + what, x, () -> x.umbrella(number, w), want[u][what]);
            }
        }
    }

    @Says(promise = 19, words = {"- `umbrella`: an umbrella", "INVALID_ARGUMENT if there is no such umbrella"})
    static void umbrellaMustBeThere(Check c) {
        RibbedLoans x = new RibbedLoans();
        c.invalid("none is bought", x, () -> x.umbrella(0, 0));
        x.buy(0, 3);
        c.due("the first", x.umbrella(0, 0), 0);
        c.due("the last", x.umbrella(2, 0), 0);
        for (int umbrella : new int[] {-1, 3, 59, 60, 61, MIN, MAX}) {
            c.invalid("umbrella " + umbrella, x, () -> x.umbrella(umbrella, 0));
        }
        x.undo();
        c.invalid("not bought any more", x, () -> x.umbrella(0, 0));
    }

    @Says(promise = 19, words = "or what is out of range.")
    static void umbrellaWhat(Check c) {
        RibbedLoans x = new RibbedLoans();
        x.buy(0, 1);
        c.due("the last", x.umbrella(0, 4), 0);
        for (int what : new int[] {-1, 5, MIN, MAX}) {
            c.invalid("what " + what, x, () -> x.umbrella(0, what));
        }
    }

    @Says(promise = 19, words = "- `what`: 0 its place (0 a stand, 1 a hand, 2 a van, 3 the workshop, 4 scrapped)")
    static void umbrellaPlace(Check c) {
        RibbedLoans x = Town.worn(7, 40, 40, 40, 0);
        int[] seen = new int[6];
        seen[0] = x.umbrella(1, 0);
        x.borrow(11, 7);
        seen[1] = x.umbrella(3, 0);
        x.load(1, 7, 2);
        seen[2] = x.umbrella(1, 0);
        x.toWorkshop(1);
        seen[3] = x.umbrella(1, 0);
        x.mend(0);
        seen[4] = x.umbrella(1, 0);
        seen[5] = x.umbrella(0, 0);
        rowOf(c, "place", new int[] {0, 1, 2, 3, 4, 0}, seen);
    }

    @Says(promise = 19, words = "1 which stand, person or van (NONE for 3 and 4)")
    static void umbrellaWhose(Check c) {
        RibbedLoans x = Town.worn(7, 40, 40, 40, 0, 0);
        c.due("stand 7", x.umbrella(1, 1), 7);
        x.borrow(11, 7);
        c.due("person 11", x.umbrella(3, 1), 11);
        x.borrow(0, 7);
        c.due("person 0", x.umbrella(4, 1), 0);
        x.load(0, 7, 1);
        c.due("van 0", x.umbrella(0, 1), 0);
        x.load(1, 7, 1);
        c.due("van 1", x.umbrella(1, 1), 1);
        x.toWorkshop(0);
        x.toWorkshop(1);
        c.due("workshop", x.umbrella(0, 1), NONE);
        x.mend(0);
        c.due("stand 0", x.umbrella(0, 1), 0);
        c.due("scrapped", x.umbrella(1, 1), NONE);
    }

    @Says(promise = 19, words = "2 its wear in eighths")
    static void umbrellaWear(Check c) {
        int[] wears = {0, 1, 15, 16, 17, 31, 32, 33, 63, 64};
        RibbedLoans x = Town.worn(7, wears);
        for (int u = 0; u < wears.length; u++) {
            c.due("wear of " + u, x.umbrella(u, 2), wears[u]);
        }
    }

    @Says(promise = 19, words = "3 1 if it is broken and 0 if not")
    static void umbrellaBroken(Check c) {
        RibbedLoans x = Town.worn(7, 0, 31, 32, 64);
        int[] want = {0, 0, 1, 1};
        for (int u = 0; u < want.length; u++) {
            c.due("broken " + u, x.umbrella(u, 3), want[u]);
        }
        Town.bringBroken(x, 7);
        c.due("in the workshop", x.umbrella(2, 3), 1);
        x.mend(7);
        c.due("mended", x.umbrella(2, 3), 0);
        c.due("scrapped", x.umbrella(3, 3), 1);
    }

    @Says(promise = 19, words = "4 how often it was lent")
    static void umbrellaLent(Check c) {
        RibbedLoans x = new RibbedLoans();
        x.buy(5, 1);
        c.due("never", x.umbrella(0, 4), 0);
        x.borrow(1, 5);
        c.due("a loan that goes on", x.umbrella(0, 4), 1);
        x.bringBack(1, 5);
        c.due("a loan that ended", x.umbrella(0, 4), 1);
        x.hour(5, 0);
        c.due("by a surge", x.umbrella(0, 4), 2);
    }

    // ---- stand

    @Says(promise = 20, words = {"Tells about a stand.", "Returns the value"})
    static void standTells(Check c) {
        RibbedLoans x = town();
        int[][] want = {{20, 1, 0, 4, 4, 150}, {8, 0, 0, NONE, NONE, 0}, {8, 1, 0, 0, 0, 125}};
        int[] stands = {0, 1, 6};
        for (int i = 0; i < stands.length; i++) {
            for (int what = 0; what < 6; what++) {
                int w = what;
                int s = stands[i];
                c.keeps("stand " + s + ", " + what, x, () -> x.stand(s, w), want[i][what]);
            }
        }
    }

    @Says(promise = 20, words = {"- `stand`: 0 to 7", "INVALID_ARGUMENT if an argument is out of range."})
    static void standRange(Check c) {
        RibbedLoans x = new RibbedLoans();
        for (int stand = 0; stand < 8; stand++) {
            c.due("room of " + stand, x.stand(stand, 0), 8);
            c.due("mean of " + stand, x.stand(stand, 5), 0);
        }
        for (int wrong : new int[] {-1, 8, MIN, MAX}) {
            c.invalid("stand " + wrong, x, () -> x.stand(wrong, 0));
        }
        for (int wrong : new int[] {-1, 6, MIN, MAX}) {
            c.invalid("what " + wrong, x, () -> x.stand(0, wrong));
        }
    }

    @Says(promise = 20, words = {"- `what`: 0 its room", "1 the umbrellas in it", "2 the broken ones of these"})
    static void standRoomUmbrellasBroken(Check c) {
        RibbedLoans x = Town.worn(7, 31, 32, 64, 0);
        c.due("room", x.stand(7, 0), 20);
        c.due("umbrellas", x.stand(7, 1), 4);
        c.due("broken", x.stand(7, 2), 2);
        x.load(0, 7, 1);
        x.borrow(11, 7);
        c.due("room stays", x.stand(7, 0), 20);
        c.due("umbrellas", x.stand(7, 1), 2);
        c.due("broken", x.stand(7, 2), 1);
        c.due("broken elsewhere", x.stand(0, 2), 0);
    }

    @Says(promise = 20, words = "3 the best one (NONE if there is none)")
    static void standBest(Check c) {
        RibbedLoans x = Town.worn(7, 40, 31, 5, 5);
        c.due("the least worn, of several the smallest", x.stand(7, 3), 2);
        x.borrow(11, 7);
        c.due("the next", x.stand(7, 3), 3);
        x.borrow(10, 7);
        c.due("wear 31", x.stand(7, 3), 1);
        x.borrow(9, 7);
        c.due("none but a broken one", x.stand(7, 3), NONE);
        c.due("empty stand", x.stand(0, 3), NONE);
    }

    @Says(promise = 20, words = "4 the worst one (NONE if it is empty)")
    static void standWorst(Check c) {
        RibbedLoans x = Town.worn(7, 0, 40, 31, 40);
        int[] want = {1, 3, 2, 0};
        for (int i = 0; i < want.length; i++) {
            c.due("worst", x.stand(7, 4), want[i]);
            x.load(0, 7, 1);
        }
        c.due("none is left", x.stand(7, 4), NONE);
        c.due("empty stand", x.stand(0, 4), NONE);
    }

    @Says(promise = 20, words = "5 the mean wear of those in it in hundredths: the sum divided by their number,"
        + " times 100, exactly, and then cut (0 if it is empty)")
    static void standMean(Check c) {
        // Some wears, and last the mean of them.
        int[][] rows = {{0}, {1, 12}, {7, 87}, {8, 100}, {64, 800}, {8, 0, 50}, {1, 0, 6}, {1, 0, 0, 4},
            {14, 37, 7, 241}, {8, 8, 0, 66}, {64, 64, 63, 795}, {1, 1, 1, 1, 1, 0, 0, 8}, {31, 33, 32, 31, 396}};
        for (int[] row : rows) {
            RibbedLoans x = Town.worn(7, Arrays.copyOf(row, row.length - 1));
            c.due("mean of " + Arrays.toString(row), x.stand(7, 5), row[row.length - 1]);
        }
        RibbedLoans x = Town.worn(7, 64, 64, 64, 64, 64, 64, 64, 64, 64, 64, 64, 63);
        x.buy(7, 8);
        // 767 eighths in 20 umbrellas.
        c.due("mean of 20", x.stand(7, 5), 479);
        c.due("mean of none", x.stand(0, 5), 0);
    }

    // ---- person

    @Says(promise = 21, words = {"Tells about a person.", "Returns the value"})
    static void personTells(Check c) {
        RibbedLoans x = town();
        int[][] want = {{36, NONE, 0, 0, 0, 4}, {40, NONE, 0, 0, 1, 0}, {30, 5, 1, 0, 2, 0}, {40, NONE, 0, 0, 3, 0}};
        int[] persons = {0, 9, 10, 11};
        for (int i = 0; i < persons.length; i++) {
            for (int what = 0; what < 6; what++) {
                int w = what;
                int p = persons[i];
                c.keeps("person " + p + ", " + what, x, () -> x.person(p, w), want[i][what]);
            }
        }
    }

    @Says(promise = 21, words = {"- `person`: 0 to 11", "INVALID_ARGUMENT if an argument is out of range."})
    static void personRange(Check c) {
        RibbedLoans x = new RibbedLoans();
        for (int person = 0; person < 12; person++) {
            int[] want = {40, NONE, 0, 0, person % 8, 0};
            for (int what = 0; what < 6; what++) {
                c.due("person " + person + ", " + what, x.person(person, what), want[what]);
            }
        }
        for (int wrong : new int[] {-1, 12, MIN, MAX}) {
            c.invalid("person " + wrong, x, () -> x.person(wrong, 0));
        }
        for (int wrong : new int[] {-1, 6, MIN, MAX}) {
            c.invalid("what " + wrong, x, () -> x.person(0, wrong));
        }
    }

    @Says(promise = 21, words = {"- `what`: 0 its coins", "5 the fees that it has paid so far"})
    static void personCoinsAndFees(Check c) {
        RibbedLoans x = new RibbedLoans();
        x.buy(5, 2);
        x.borrow(11, 5);
        c.due("coins", x.person(11, 0), 30);
        x.hour(2, 0);
        c.due("no fee yet", x.person(11, 5), 0);
        x.bringBack(11, 5);
        c.due("coins", x.person(11, 0), 39);
        c.due("fees", x.person(11, 5), 1);
        Town.pay(x, 11, 5, 30);
        c.due("coins", x.person(11, 0), 9);
        c.due("fees", x.person(11, 5), 31);
        c.due("fees of another", x.person(10, 5), 0);
    }

    @Says(promise = 21, words = "1 its umbrella (NONE if it has none in hand)")
    static void personUmbrella(Check c) {
        RibbedLoans x = new RibbedLoans();
        x.buy(5, 2);
        c.due("none", x.person(11, 1), NONE);
        x.borrow(11, 5);
        c.due("the first, 0", x.person(11, 1), 0);
        x.borrow(0, 5);
        c.due("the second, 1", x.person(0, 1), 1);
        x.bringBack(11, 5);
        c.due("none", x.person(11, 1), NONE);
    }

    @Says(promise = 21, words = "2 the showers during its loan (0 without one)")
    static void personShowers(Check c) {
        RibbedLoans x = new RibbedLoans();
        x.buy(5, 2);
        x.hour(3, 0);
        c.due("without a loan", x.person(10, 2), 0);
        x.borrow(10, 5);
        x.hour(1, 0);
        c.due("rain 1", x.person(10, 2), 0);
        x.hour(2, 0);
        x.hour(9, 0);
        c.due("two", x.person(10, 2), 2);
        x.bringBack(10, 5);
        c.due("0 when it is back", x.person(10, 2), 0);
        x.hour(3, 0);
        c.due("and in rain then", x.person(10, 2), 0);
        x.borrow(10, 5);
        c.due("0 at the next", x.person(10, 2), 0);
    }

    @Says(promise = 21, words = "3 1 if the umbrella broke during its loan and 0 if not")
    static void personBroke(Check c) {
        RibbedLoans x = Town.worn(5, 31, 0);
        c.due("without a loan", x.person(10, 3), 0);
        x.borrow(11, 5);
        x.borrow(10, 5);
        c.due("at first", x.person(10, 3), 0);
        x.hour(1, 0);
        c.due("broke", x.person(10, 3), 1);
        c.due("another did not", x.person(11, 3), 0);
        x.hour(9, 3);
        c.due("broke before", x.person(10, 3), 1);
        x.bringBack(10, 5);
        c.due("when it is back", x.person(10, 3), 0);
    }

    @Says(promise = 21, words = "4 its stand")
    static void personStand(Check c) {
        RibbedLoans x = new RibbedLoans();
        x.buy(5, 2);
        c.due("at first", x.person(10, 4), 2);
        x.borrow(10, 5);
        c.due("borrowing leaves it", x.person(10, 4), 2);
        x.bringBack(10, 7);
        c.due("where it brought back", x.person(10, 4), 7);
    }

    // ---- inVan

    @Says(promise = 22, words = {"Returns an umbrella in a van, by their numbers.", "Returns the umbrella;"})
    static void inVanByTheirNumbers(Check c) {
        RibbedLoans x = Town.worn(5, 7, 9, 40, 8);
        x.load(1, 5, 1);
        x.load(1, 5, 1);
        x.load(1, 5, 2);
        for (int place = 0; place < 4; place++) {
            int p = place;
            c.keeps("place " + place, x, () -> x.inVan(1, p), place);
        }
        x.unload(1, 5, 1);
        c.due("the next moves up", x.inVan(1, 0), 1);
        c.due("a broken one, too", x.inVan(1, 1), 2);
    }

    @Says(promise = 22, words = {"- `van`: 0 or 1", "INVALID_ARGUMENT if van is out of range"})
    static void inVanVans(Check c) {
        RibbedLoans x = new RibbedLoans();
        x.buy(5, 3);
        x.load(0, 5, 1);
        x.load(1, 5, 2);
        c.due("van 0", x.inVan(0, 0), 0);
        c.due("van 1", x.inVan(1, 1), 2);
        for (int van : new int[] {-1, 2, MIN, MAX}) {
            c.invalid("van " + van, x, () -> x.inVan(van, 0));
            c.invalid("van " + van + ", far off", x, () -> x.inVan(van, 99));
        }
    }

    @Says(promise = 22, words = {"- `place`: 0 or more", "or place is negative"})
    static void inVanPlaces(Check c) {
        RibbedLoans x = new RibbedLoans();
        x.buy(5, 1);
        x.load(0, 5, 1);
        c.invalid("place -1", x, () -> x.inVan(0, -1));
        c.invalid("place -1 of an empty van", x, () -> x.inVan(1, -1));
        c.invalid("the most negative", x, () -> x.inVan(0, MIN));
        c.due("place 0", x.inVan(0, 0), 0);
        c.due("the greatest", x.inVan(0, MAX), NONE);
    }

    @Says(promise = 22, words = "NONE if not so many are in it.")
    static void inVanNone(Check c) {
        RibbedLoans x = new RibbedLoans();
        x.set(5, 20);
        x.buy(5, 12);
        c.due("empty van", x.inVan(0, 0), NONE);
        x.load(0, 5, 10);
        c.due("the tenth", x.inVan(0, 9), 9);
        c.due("no eleventh", x.inVan(0, 10), NONE);
        c.due("the other is empty", x.inVan(1, 0), NONE);
    }
}
