/** Promises 1 to 5, and the terms that they rest on: a new object, buy, set, borrow, bringBack. */
public final class LoansTest {
    private static final int NONE = RibbedLoans.NONE;
    private static final int MIN = Integer.MIN_VALUE;
    private static final int MAX = Integer.MAX_VALUE;

    public static void main(String[] args) {
        Sentences.run(LoansTest.class);
    }

    // ---- terms

    @Says(words = "There are at most 60 umbrellas")
    static void sixtyUmbrellas(Check c) {
        RibbedLoans x = Town.rich();
        c.due("buy", x.buy(1, 20), 20);
        c.due("buy", x.buy(2, 19), 40);
        c.due("the 60th", x.buy(3, 1), 59);
        c.due("umbrellas", x.count(1), 60);
        c.exceeded("a 61st", x, () -> x.buy(3, 1));
    }

    @Says(words = "numbered from 0 in the order in which they were bought.")
    static void numbersInTheOrderOfBuying(Check c) {
        RibbedLoans x = new RibbedLoans();
        c.due("first", x.buy(6, 2), 0);
        c.due("second", x.buy(0, 1), 2);
        c.due("third", x.buy(6, 1), 3);
        int[] stands = {6, 6, 0, 6};
        for (int u = 0; u < 4; u++) {
            c.due("stand of " + u, x.umbrella(u, 1), stands[u]);
        }
        c.invalid("one that is not bought", x, () -> x.umbrella(4, 1));
    }

    @Says(words = "Each is at one place: in a stand, in the hand of a person, in a van, in the workshop, or scrapped.")
    static void eachIsAtOnePlace(Check c) {
        RibbedLoans x = Town.worn(2, 40, 40, 40, 0, 0, 0);
        Town.bringBroken(x, 2);
        x.mend(0);
        x.load(1, 2, 1);
        x.borrow(9, 2);
        int[] counts = {2, 1, 1, 1, 1};
        for (int place = 0; place < 5; place++) {
            c.due("place " + place, x.count(2 + place), counts[place]);
        }
        c.due("all", x.count(1), 6);
    }

    @Says(words = "It has a wear, which is a multiple of one eighth (0 at first)")
    static void aNewOneHasNoWear(Check c) {
        RibbedLoans x = new RibbedLoans();
        x.buy(7, 1);
        c.due("wear", x.umbrella(0, 2), 0);
        c.due("broken", x.umbrella(0, 3), 0);
        c.due("lent", x.umbrella(0, 4), 0);
        x.borrow(0, 7);
        x.hour(1, 0);
        c.due("one eighth", x.umbrella(0, 2), 1);
    }

    @Says(words = "and is broken if its wear is 4 or more.")
    static void brokenFromFour(Check c) {
        RibbedLoans x = Town.worn(1, 31, 32, 33, 64);
        for (int u = 0; u < 4; u++) {
            c.due("broken " + u, x.umbrella(u, 3), u == 0 ? 0 : 1);
        }
        c.due("broken ones", x.count(7), 3);
    }

    @Says(words = "There are 8 stands, 0 to 7, in a ring, each with a room of 1 to 20 (at first 8).")
    static void eightStandsWithRoomEight(Check c) {
        RibbedLoans x = new RibbedLoans();
        for (int stand = 0; stand < 8; stand++) {
            int s = stand;
            c.due("room of " + s, x.stand(s, 0), 8);
            c.exceeded("nine in " + s, x, () -> x.buy(s, 9));
            c.due("least room of " + s, x.set(s, 1), 8);
            c.due("most room of " + s, x.set(s, 20), 1);
        }
        c.invalid("stand 8", x, () -> x.stand(8, 0));
    }

    @Says(words = "There are 12 persons, 0 to 11, each with coins (at first 40).")
    static void twelvePersonsWithForty(Check c) {
        RibbedLoans x = new RibbedLoans();
        for (int person = 0; person < 12; person++) {
            c.due("coins of " + person, x.person(person, 0), 40);
        }
        c.due("together", x.count(9), 480);
        c.invalid("person 12", x, () -> x.person(12, 0));
    }

    @Says(words = "The house has coins, too (at first 100)")
    static void theHouseHasAHundred(Check c) {
        RibbedLoans x = new RibbedLoans();
        c.due("house", x.count(8), 100);
        x.set(3, 20);
        c.due("it can spend them all", x.buy(3, 20), 0);
        c.due("house", x.count(8), 0);
    }

    @Says(words = "it can spend those above the deposits of all loans that go on (10 for each umbrella in a hand).")
    static void depositsAreNotSpent(Check c) {
        RibbedLoans x = new RibbedLoans();
        x.set(3, 20);
        x.buy(3, 19);
        x.borrow(0, 3);
        x.borrow(1, 3);
        c.due("house", x.count(8), 25);
        c.illegal("two for 10", x, () -> x.buy(4, 2));
        c.due("one for 5", x.buy(4, 1), 19);
        c.illegal("one more", x, () -> x.buy(4, 1));
        x.bringBack(0, 3);
        c.illegal("the deposit is gone, not free", x, () -> x.buy(4, 1));
    }

    @Says(words = "There are 2 vans, 0 and 1")
    static void twoVans(Check c) {
        RibbedLoans x = new RibbedLoans();
        x.buy(0, 2);
        c.due("van 0", x.load(0, 0, 1), 0);
        c.due("van 1", x.load(1, 0, 1), 0);
        c.due("in van 0", x.inVan(0, 0), 0);
        c.due("in van 1", x.inVan(1, 0), 1);
        c.invalid("van 2", x, () -> x.inVan(2, 0));
    }

    @Says(words = "The best umbrella of a stand is the one with the least wear that is not broken")
    static void theBestOne(Check c) {
        RibbedLoans x = Town.worn(4, 40, 31, 9, 12, 32);
        c.due("least wear", x.stand(4, 3), 2);
        c.due("is lent", x.borrow(8, 4), 2);
        c.due("the next", x.borrow(9, 4), 3);
        c.due("wear 31 is not broken", x.borrow(10, 4), 1);
        c.due("wear 32 is", x.stand(4, 3), NONE);
    }

    @Says(words = ", of several the one with the smallest number; the worst one")
    static void theBestOfEqualOnes(Check c) {
        RibbedLoans x = Town.worn(4, 10, 8, 8, 8);
        c.due("smallest", x.borrow(8, 4), 1);
        c.due("next", x.borrow(9, 4), 2);
        c.due("last", x.borrow(10, 4), 3);
    }

    @Says(words = "the worst one is the one with the greatest wear")
    static void theWorstOne(Check c) {
        RibbedLoans x = Town.worn(4, 3, 50, 49, 31);
        c.due("broken ones, too", x.stand(4, 4), 1);
        x.load(0, 4, 2);
        c.due("if none is broken", x.stand(4, 4), 3);
    }

    @Says(words = "is the one with the greatest wear, of several the one with the smallest number.")
    static void theWorstOfEqualOnes(Check c) {
        RibbedLoans x = Town.worn(4, 8, 9, 9, 9);
        c.due("smallest", x.stand(4, 4), 1);
        x.load(0, 4, 1);
        c.due("next", x.stand(4, 4), 2);
    }

    @Says(words = "A person without an umbrella in hand can borrow the best one of a stand")
    static void withoutOneInHand(Check c) {
        RibbedLoans x = Town.worn(2, 4, 2);
        c.due("the best", x.borrow(5, 2), 1);
        c.illegal("a second one", x, () -> x.borrow(5, 2));
        x.bringBack(5, 2);
        c.due("once it is back", x.borrow(5, 2), 1);
    }

    @Says(words = "for a deposit of 10 coins, which go from the person to the house.")
    static void theDeposit(Check c) {
        RibbedLoans x = new RibbedLoans();
        x.buy(2, 1);
        x.borrow(5, 2);
        c.due("person", x.person(5, 0), 30);
        c.due("house", x.count(8), 105);
        c.due("all persons", x.count(9), 470);
    }

    @Says(words = "When it brings it back to a stand with room, it gets the deposit back, less a fee")
    static void theDepositLessAFee(Check c) {
        RibbedLoans x = new RibbedLoans();
        x.buy(2, 2);
        x.borrow(5, 2);
        c.due("no fee", x.bringBack(5, 3), 0);
        c.due("person", x.person(5, 0), 40);
        c.due("house", x.count(8), 90);
        x.borrow(5, 2);
        x.hour(4, 0);
        c.due("fee", x.bringBack(5, 3), 1);
        c.due("person", x.person(5, 0), 39);
        c.due("house", x.count(8), 91);
    }

    @Says(words = "the rate as it is then (0 to 5; at first 1)")
    static void theRateAsItIsThen(Check c) {
        RibbedLoans x = new RibbedLoans();
        x.buy(2, 4);
        x.borrow(0, 2);
        x.borrow(1, 2);
        x.borrow(2, 2);
        x.hour(2, 0);
        c.due("at first 1", x.bringBack(0, 2), 1);
        c.due("rate", x.set(8, 5), 1);
        c.due("5 at the end", x.bringBack(1, 2), 5);
        x.set(8, 0);
        c.due("0 at the end", x.bringBack(2, 2), 0);
    }

    @Says(words = "for each shower during this loan")
    static void showersOfThisLoanAlone(Check c) {
        RibbedLoans x = new RibbedLoans();
        x.buy(2, 1);
        x.hour(4, 0);
        x.borrow(0, 2);
        c.due("a shower before", x.bringBack(0, 2), 0);
        x.borrow(0, 2);
        x.hour(2, 0);
        x.hour(1, 0);
        x.hour(2, 0);
        c.due("two of three hours", x.bringBack(0, 2), 2);
        x.borrow(0, 2);
        x.hour(3, 0);
        c.due("those of the loan before are gone", x.bringBack(0, 2), 1);
    }

    @Says(words = "and 4 coins more if the umbrella broke during it")
    static void fourCoinsIfItBroke(Check c) {
        RibbedLoans x = Town.worn(2, 31, 31);
        x.borrow(5, 2);
        x.borrow(6, 2);
        c.due("whole", x.bringBack(5, 2), 0);
        x.hour(1, 0);
        c.due("broke", x.bringBack(6, 2), 4);
        c.due("coins", x.person(6, 0), 36);
        RibbedLoans y = Town.worn(2, 40, 40);
        Town.bringBroken(y, 2);
        y.mend(2);
        y.borrow(5, 2);
        c.due("broke during another loan", y.bringBack(5, 2), 0);
    }

    @Says(words = "but at most 10 together.")
    static void atMostTenTogether(Check c) {
        int[][] rows = {{1, 5, 0, 5}, {2, 5, 0, 10}, {3, 5, 0, 10}, {3, 3, 0, 9}, {1, 5, 1, 9}, {2, 3, 1, 10},
            {3, 2, 1, 10}, {2, 4, 1, 10}, {6, 1, 1, 10}, {7, 1, 1, 10}, {5, 1, 1, 9}};
        for (int[] row : rows) {
            RibbedLoans x = new RibbedLoans();
            x.buy(0, 1);
            x.borrow(0, 0);
            for (int i = 0; i < row[0]; i++) {
                x.hour(2, 0);
            }
            for (int i = 0; i < 6 * row[2]; i++) {
                x.hour(0, 3);
            }
            x.set(8, row[1]);
            c.due(row[0] + " showers at " + row[1] + ", broken " + row[2], x.bringBack(0, 0), row[3]);
            c.due("coins", x.person(0, 0), 40 - row[3]);
        }
    }

    // ---- a new object

    @Says(promise = 1, words = "Creates empty stands")
    static void newStandsAreEmpty(Check c) {
        RibbedLoans x = new RibbedLoans();
        for (int stand = 0; stand < 8; stand++) {
            int[] want = {8, 0, 0, NONE, NONE, 0};
            for (int what = 0; what < 6; what++) {
                c.due("stand " + stand + ", " + what, x.stand(stand, what), want[what]);
            }
        }
        int[] counts = {0, 0, 0, 0, 0, 0, 0, 0, 100, 480, 0, 0, 0, 0, 1, 0, 0, 0};
        for (int what = 0; what < 18; what++) {
            c.due("count " + what, x.count(what), counts[what]);
        }
        c.illegal("nothing to undo", x, x::undo);
        c.illegal("no snapshot", x, () -> x.restore(0));
        c.illegal("no snapshot", x, () -> x.restore(1));
    }

    @Says(promise = 1, words = "with an empty text.")
    static void newTextIsEmpty(Check c) {
        RibbedLoans x = new RibbedLoans();
        c.keeps("carryOut", x, x::carryOut, -1000);
        c.due("clearText", x.clearText(), 0);
    }

    // ---- buy

    @Says(promise = 2, words = "Buys umbrellas for a stand")
    static void buyForAStand(Check c) {
        RibbedLoans x = new RibbedLoans();
        x.buy(5, 3);
        c.due("in the stand", x.stand(5, 1), 3);
        c.due("in stands", x.count(2), 3);
        for (int u = 0; u < 3; u++) {
            c.due("place", x.umbrella(u, 0), 0);
            c.due("stand", x.umbrella(u, 1), 5);
        }
    }

    @Says(promise = 2, words = "each for 5 coins of the house.")
    static void buyForFiveCoinsEach(Check c) {
        RibbedLoans x = new RibbedLoans();
        x.buy(5, 3);
        c.due("house", x.count(8), 85);
        c.due("spent", x.count(10), 15);
        c.due("persons", x.count(9), 480);
    }

    @Says(promise = 2, words = "This is an action.")
    static void buyIsAnAction(Check c) {
        RibbedLoans x = new RibbedLoans();
        c.isAction("buy(0, 2)", x, () -> x.buy(0, 2));
        c.due("the number is free again", x.buy(1, 1), 0);
    }

    @Says(promise = 2, words = "`stand`: 0 to 7")
    static void buyForStands0To7(Check c) {
        RibbedLoans x = new RibbedLoans();
        for (int stand = 0; stand < 8; stand++) {
            c.due("stand " + stand, x.buy(stand, 1), stand);
        }
        for (int stand : new int[] {-1, 8, MIN, MAX}) {
            c.invalid("stand " + stand, x, () -> x.buy(stand, 1));
        }
    }

    @Says(promise = 2, words = "`many`: 1 to 20")
    static void buy1To20(Check c) {
        RibbedLoans x = new RibbedLoans();
        x.set(0, 20);
        for (int many : new int[] {0, 21, -1, MIN, MAX, 858993460}) {
            c.invalid("many " + many, x, () -> x.buy(0, many));
        }
        c.due("least", x.buy(0, 1), 0);
        x.undo();
        c.due("most", x.buy(0, 20), 0);
    }

    @Says(promise = 2, words = "Returns the number of the first one")
    static void buyReturnsTheFirst(Check c) {
        RibbedLoans x = new RibbedLoans();
        c.due("first", x.buy(1, 8), 0);
        c.due("second", x.buy(2, 4), 8);
        c.due("third", x.buy(3, 1), 12);
    }

    @Says(promise = 2, words = "INVALID_ARGUMENT if an argument is out of range")
    static void buyRangeComesFirst(Check c) {
        RibbedLoans x = new RibbedLoans();
        c.invalid("before room", x, () -> x.buy(0, 21));
        c.invalid("before room", x, () -> x.buy(8, 9));
        x.set(0, 20);
        x.buy(0, 20);
        c.invalid("before coins", x, () -> x.buy(0, 21));
        c.invalid("before coins", x, () -> x.buy(-1, 1));
    }

    @Says(promise = 2, words = "ILLEGAL_STATE if the house cannot spend so many coins")
    static void buyNeedsCoins(Check c) {
        RibbedLoans x = new RibbedLoans();
        x.buy(0, 5);
        Town.leaveHouse(x, 0, 14);
        c.illegal("14 for three", x, () -> x.buy(1, 3));
        c.due("14 for two", x.buy(1, 2), x.count(1) - 2);
        c.due("house", x.count(8), 4);
        c.illegal("4 for one", x, () -> x.buy(1, 1));
        Town.pay(x, 0, 0, 1);
        c.due("5", x.count(8), 5);
        c.holds("5 for one", x.buy(1, 1) > 0);
        c.due("nothing is left", x.count(8), 0);
        c.illegal("0 for one", x, () -> x.buy(1, 1));
    }

    @Says(promise = 2, words = "ILLEGAL_STATE if the house cannot spend so many coins; CAPACITY_EXCEEDED")
    static void buyCoinsComeBeforeRoom(Check c) {
        RibbedLoans x = new RibbedLoans();
        x.buy(0, 8);
        x.buy(1, 8);
        c.illegal("too dear and no room", x, () -> x.buy(0, 5));
        c.exceeded("no room alone", x, () -> x.buy(0, 4));
        RibbedLoans y = Town.rich();
        y.buy(1, 20);
        y.buy(2, 20);
        c.exceeded("60 alone", y, () -> y.buy(3, 8));
        c.illegal("60 and too dear", y, () -> y.buy(3, 9));
    }

    @Says(promise = 2, words = "CAPACITY_EXCEEDED if there would be more than 60 umbrellas")
    static void buyUpTo60(Check c) {
        RibbedLoans x = Town.rich();
        x.buy(1, 20);
        x.buy(2, 15);
        c.exceeded("to 61", x, () -> x.buy(3, 6));
        c.due("to 60", x.buy(3, 5), 55);
        c.exceeded("to 61", x, () -> x.buy(4, 1));
        // A scrapped one keeps its number, so there are 60 still.
        x.borrow(0, 3);
        x.borrow(1, 3);
        for (int i = 0; i < 6; i++) {
            x.hour(0, 3);
        }
        x.bringBack(0, 3);
        x.bringBack(1, 3);
        Town.bringBroken(x, 3);
        x.mend(4);
        c.due("scrapped", x.count(6), 1);
        c.exceeded("in place of a scrapped one", x, () -> x.buy(4, 1));
    }

    @Says(promise = 2, words = "or more in the stand than its room.")
    static void buyUpToTheRoom(Check c) {
        RibbedLoans x = Town.worn(0, 40, 0);
        x.set(0, 4);
        c.exceeded("one too many, with a broken one there", x, () -> x.buy(0, 3));
        c.due("just the room", x.buy(0, 2), 2);
        c.exceeded("full", x, () -> x.buy(0, 1));
        x.borrow(0, 0);
        c.due("the room of one that is lent", x.buy(0, 1), 4);
    }

    // ---- set

    @Says(promise = 3, words = "Sets a number.")
    static void setSets(Check c) {
        RibbedLoans x = new RibbedLoans();
        x.set(3, 5);
        x.set(8, 2);
        for (int stand = 0; stand < 8; stand++) {
            c.due("room of " + stand, x.stand(stand, 0), stand == 3 ? 5 : 8);
        }
        c.due("rate", x.count(14), 2);
    }

    @Says(promise = 3, words = "This is an action.")
    static void setIsAnAction(Check c) {
        RibbedLoans x = new RibbedLoans();
        c.isAction("set(0, 5)", x, () -> x.set(0, 5));
        c.isAction("set(8, 0)", x, () -> x.set(8, 0));
        c.isAction("set(7, 8), which changes nothing", x, () -> x.set(7, 8));
    }

    @Says(promise = 3, words = "`what`: 0 to 7 for the room of this stand (1 to 20)")
    static void setRoom1To20(Check c) {
        RibbedLoans x = new RibbedLoans();
        for (int stand = 0; stand < 8; stand++) {
            int s = stand;
            c.due("1", x.set(s, 1), 8);
            c.due("20", x.set(s, 20), 1);
            for (int room : new int[] {0, 21, -1, MIN, MAX}) {
                c.invalid("room " + room, x, () -> x.set(s, room));
            }
        }
    }

    @Says(promise = 3, words = "8 for the rate (0 to 5)")
    static void setRate0To5(Check c) {
        RibbedLoans x = new RibbedLoans();
        c.due("0", x.set(8, 0), 1);
        c.due("5", x.set(8, 5), 0);
        for (int rate : new int[] {-1, 6, 8, 20, MIN, MAX}) {
            c.invalid("rate " + rate, x, () -> x.set(8, rate));
        }
    }

    @Says(promise = 3, words = "`value`: the new number")
    static void setTheNewNumber(Check c) {
        RibbedLoans x = new RibbedLoans();
        for (int room = 1; room <= 20; room++) {
            x.set(6, room);
            c.due("room", x.stand(6, 0), room);
        }
        for (int rate = 0; rate <= 5; rate++) {
            x.set(8, rate);
            c.due("rate", x.count(14), rate);
        }
    }

    @Says(promise = 3, words = "Returns the previous number")
    static void setReturnsThePrevious(Check c) {
        RibbedLoans x = new RibbedLoans();
        c.due("room at first", x.set(0, 3), 8);
        c.due("room then", x.set(0, 3), 3);
        c.due("rate at first", x.set(8, 4), 1);
        c.due("rate then", x.set(8, 4), 4);
    }

    @Says(promise = 3, words = "INVALID_ARGUMENT if an argument is out of range")
    static void setRangeComesFirst(Check c) {
        RibbedLoans x = new RibbedLoans();
        x.buy(0, 3);
        for (int what : new int[] {-1, 9, MIN, MAX}) {
            c.invalid("what " + what, x, () -> x.set(what, 3));
        }
        c.invalid("no room, before the umbrellas there", x, () -> x.set(0, 0));
    }

    @Says(promise = 3, words = "ILLEGAL_STATE if more umbrellas are in the stand than its room would be.")
    static void setNoRoomBelowTheUmbrellas(Check c) {
        RibbedLoans x = Town.worn(0, 40, 40, 0, 0);
        c.illegal("one fewer, with broken ones there", x, () -> x.set(0, 3));
        c.due("just as many", x.set(0, 4), 20);
        x.borrow(0, 0);
        c.due("one is lent", x.set(0, 3), 4);
        c.illegal("and no fewer", x, () -> x.set(0, 2));
        c.due("the rate is no room", x.set(8, 0), 1);
        c.due("nor is another stand full", x.set(1, 1), 8);
    }

    // ---- borrow

    @Says(promise = 4, words = "Lets a person borrow.")
    static void borrowPutsItInTheHand(Check c) {
        RibbedLoans x = new RibbedLoans();
        x.buy(3, 2);
        x.borrow(7, 3);
        c.due("place", x.umbrella(0, 0), 1);
        c.due("whose", x.umbrella(0, 1), 7);
        c.due("lent", x.umbrella(0, 4), 1);
        c.due("in hand", x.person(7, 1), 0);
        c.due("loans", x.count(12), 1);
        c.due("left in the stand", x.stand(3, 1), 1);
        c.due("its stand stays", x.person(7, 4), 7);
    }

    @Says(promise = 4, words = "This is an action.")
    static void borrowIsAnAction(Check c) {
        RibbedLoans x = new RibbedLoans();
        x.buy(3, 2);
        c.isAction("borrow(7, 3)", x, () -> x.borrow(7, 3));
    }

    @Says(promise = 4, words = "`person`: 0 to 11")
    static void borrowPersons0To11(Check c) {
        RibbedLoans x = new RibbedLoans();
        x.set(3, 20);
        x.buy(3, 13);
        for (int person = 0; person < 12; person++) {
            c.due("person " + person, x.borrow(person, 3), person);
        }
        for (int person : new int[] {-1, 12, MIN, MAX}) {
            c.invalid("person " + person, x, () -> x.borrow(person, 3));
        }
    }

    @Says(promise = 4, words = "`stand`: 0 to 7")
    static void borrowStands0To7(Check c) {
        RibbedLoans x = new RibbedLoans();
        for (int stand = 0; stand < 8; stand++) {
            x.buy(stand, 1);
            c.due("stand " + stand, x.borrow(stand, stand), stand);
        }
        for (int stand : new int[] {-1, 8, MIN, MAX}) {
            c.invalid("stand " + stand, x, () -> x.borrow(9, stand));
        }
    }

    @Says(promise = 4, words = "Returns the umbrella")
    static void borrowReturnsTheBest(Check c) {
        RibbedLoans x = Town.worn(3, 6, 5, 40, 5);
        c.due("best", x.borrow(8, 3), 1);
        c.due("next", x.borrow(9, 3), 3);
        c.due("last", x.borrow(10, 3), 0);
    }

    @Says(promise = 4, words = "INVALID_ARGUMENT if an argument is out of range")
    static void borrowRangeComesFirst(Check c) {
        RibbedLoans x = new RibbedLoans();
        x.buy(3, 1);
        c.invalid("before an empty stand", x, () -> x.borrow(12, 4));
        x.borrow(0, 3);
        c.invalid("before one in hand", x, () -> x.borrow(0, 8));
    }

    @Says(promise = 4, words = "ILLEGAL_STATE if the person has an umbrella in hand")
    static void borrowNoSecondOne(Check c) {
        RibbedLoans x = new RibbedLoans();
        x.buy(3, 3);
        x.borrow(0, 3);
        x.borrow(11, 3);
        c.illegal("person 0", x, () -> x.borrow(0, 3));
        c.illegal("person 11", x, () -> x.borrow(11, 3));
        for (int i = 0; i < 6; i++) {
            x.hour(0, 3);
        }
        c.due("broken", x.person(0, 3), 1);
        c.illegal("one in hand that is broken", x, () -> x.borrow(0, 3));
    }

    @Says(promise = 4, words = "or fewer than 10 coins")
    static void borrowNeedsTenCoins(Check c) {
        RibbedLoans x = new RibbedLoans();
        x.buy(3, 3);
        Town.pay(x, 8, 3, 31);
        c.due("9 coins", x.person(8, 0), 9);
        c.illegal("9 are too few", x, () -> x.borrow(8, 3));
        Town.pay(x, 9, 3, 30);
        c.due("10 coins", x.person(9, 0), 10);
        c.holds("10 are enough", x.borrow(9, 3) >= 0);
        c.due("nothing is left", x.person(9, 0), 0);
    }

    @Says(promise = 4, words = "or the stand has no best one.")
    static void borrowNeedsABestOne(Check c) {
        RibbedLoans x = Town.worn(3, 32, 64, 31);
        c.illegal("empty stand", x, () -> x.borrow(8, 4));
        c.due("wear 31", x.borrow(8, 3), 2);
        c.illegal("none but broken ones", x, () -> x.borrow(9, 3));
    }

    // ---- bringBack

    @Says(promise = 5, words = "Lets a person bring its umbrella back.")
    static void bringBackPutsItIntoTheStand(Check c) {
        RibbedLoans x = new RibbedLoans();
        x.buy(3, 2);
        x.borrow(7, 3);
        x.hour(3, 2);
        x.bringBack(7, 5);
        c.due("place", x.umbrella(0, 0), 0);
        c.due("stand", x.umbrella(0, 1), 5);
        c.due("wear stays", x.umbrella(0, 2), 7);
        c.due("in hand", x.person(7, 1), NONE);
        c.due("its stand", x.person(7, 4), 5);
        c.due("in stands", x.count(2), 2);
        c.due("loans so far", x.count(12), 1);
    }

    @Says(promise = 5, words = "This is an action.")
    static void bringBackIsAnAction(Check c) {
        RibbedLoans x = new RibbedLoans();
        x.buy(3, 2);
        x.borrow(7, 3);
        x.hour(3, 2);
        c.isAction("bringBack(7, 5)", x, () -> x.bringBack(7, 5));
    }

    @Says(promise = 5, words = "`person`: 0 to 11")
    static void bringBackPersons0To11(Check c) {
        RibbedLoans x = new RibbedLoans();
        x.set(3, 20);
        x.buy(3, 12);
        for (int person = 0; person < 12; person++) {
            x.borrow(person, 3);
        }
        for (int person : new int[] {-1, 12, MIN, MAX}) {
            c.invalid("person " + person, x, () -> x.bringBack(person, 3));
        }
        for (int person = 0; person < 12; person++) {
            c.due("person " + person, x.bringBack(person, 3), 0);
            c.due("its place", x.umbrella(person, 0), 0);
        }
    }

    @Says(promise = 5, words = "`stand`: 0 to 7")
    static void bringBackStands0To7(Check c) {
        RibbedLoans x = new RibbedLoans();
        x.buy(3, 1);
        for (int stand = 0; stand < 8; stand++) {
            x.borrow(0, stand == 0 ? 3 : stand - 1);
            c.due("stand " + stand, x.bringBack(0, stand), 0);
            c.due("its stand", x.umbrella(0, 1), stand);
        }
        x.borrow(0, 7);
        for (int stand : new int[] {-1, 8, MIN, MAX}) {
            c.invalid("stand " + stand, x, () -> x.bringBack(0, stand));
        }
    }

    @Says(promise = 5, words = "Returns the fee")
    static void bringBackReturnsTheFee(Check c) {
        RibbedLoans x = Town.worn(3, 20);
        x.set(8, 2);
        x.borrow(9, 3);
        x.hour(2, 0);
        x.hour(4, 1);
        c.due("two showers and broken", x.bringBack(9, 0), 8);
        c.due("coins", x.person(9, 0), 32);
        c.due("fees of the person", x.person(9, 5), 8);
        c.due("fees of all", x.count(11), 8);
    }

    @Says(promise = 5, words = "INVALID_ARGUMENT if an argument is out of range")
    static void bringBackRangeComesFirst(Check c) {
        RibbedLoans x = new RibbedLoans();
        c.invalid("before an empty hand", x, () -> x.bringBack(0, 8));
        x.buy(3, 1);
        x.set(3, 1);
        c.invalid("before a full stand", x, () -> x.bringBack(12, 3));
    }

    @Says(promise = 5, words = "ILLEGAL_STATE if the person has no umbrella in hand")
    static void bringBackNeedsOneInHand(Check c) {
        RibbedLoans x = new RibbedLoans();
        x.buy(3, 2);
        x.set(3, 2);
        c.illegal("never had one", x, () -> x.bringBack(0, 4));
        c.illegal("even to a full stand", x, () -> x.bringBack(0, 3));
        x.borrow(1, 3);
        c.illegal("another has one", x, () -> x.bringBack(0, 3));
        x.bringBack(1, 3);
        c.illegal("a second time", x, () -> x.bringBack(1, 4));
    }

    @Says(promise = 5, words = "CAPACITY_EXCEEDED if the stand is full.")
    static void bringBackNeedsRoom(Check c) {
        RibbedLoans x = Town.worn(3, 40, 0, 0, 0);
        x.borrow(8, 3);
        x.borrow(9, 3);
        x.hour(3, 0);
        x.set(3, 3);
        c.due("the last place", x.bringBack(8, 3), 1);
        c.exceeded("full, with a broken one there", x, () -> x.bringBack(9, 3));
        c.due("still in hand", x.person(9, 1), 2);
        x.set(3, 4);
        c.due("with room again", x.bringBack(9, 3), 1);
    }
}
