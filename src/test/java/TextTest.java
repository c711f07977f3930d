/** Promises 15 to 17, and the terms that they rest on: append, clearText, carryOut. */
public final class TextTest {
    private static final int NONE = RibbedLoans.NONE;
    private static final int MIN = Integer.MIN_VALUE;
    private static final int MAX = Integer.MAX_VALUE;

    public static void main(String[] args) {
        Sentences.run(TextTest.class);
    }

    /** The fault is told, and nothing changes. */
    private static void fault(Check c, String text, int fault) {
        RibbedLoans x = new RibbedLoans();
        x.buy(2, 3);
        Town.write(x, text);
        c.keeps("carryOut of <" + text + ">", x, x::carryOut, -1000 - fault);
        c.due("the text stays", x.clearText(), text.length());
    }

    /** The text has no fault, be its orders possible or not. */
    private static void noFault(Check c, String text, int done) {
        RibbedLoans x = new RibbedLoans();
        x.buy(2, 3);
        Town.write(x, text);
        c.due("carryOut of <" + text + ">", x.carryOut(), done);
        c.due("the text is empty", x.count(17), 0);
    }

    /** So many characters, all of them levelling orders but for the end. */
    private static String longText(int length, String end) {
        StringBuilder text = new StringBuilder();
        while (text.length() + end.length() < length) {
            text.append("l;");
        }
        return text.append(end).toString();
    }

    // ---- terms

    @Says(words = "There is a text of at most 80 characters")
    static void eightyCharacters(Check c) {
        RibbedLoans x = new RibbedLoans();
        Town.write(x, longText(80, "h0,1"));
        c.due("length", x.count(17), 80);
        c.exceeded("one more", x, () -> x.append(';'));
        c.due("all orders", x.carryOut(), 39);
    }

    @Says(words = "at most 80 characters, empty at first.")
    static void theTextIsEmptyAtFirst(Check c) {
        c.due("length", new RibbedLoans().count(17), 0);
        c.due("clearText", new RibbedLoans().clearText(), 0);
        fault(c, "", 0);
    }

    @Says(words = "A text of orders is one or more orders with \";\" between two.")
    static void semicolonsBetweenOrders(Check c) {
        noFault(c, "l", 1);
        noFault(c, "l;l", 2);
        noFault(c, "l;h1,0;l", 3);
        fault(c, ";", 0);
        fault(c, ";l", 0);
        fault(c, "l;", 2);
        fault(c, "l;;l", 2);
        fault(c, "ll", 1);
        fault(c, "l,l", 1);
        fault(c, "l:l", 1);
        fault(c, "h1,0l", 4);
        fault(c, "b1@2h1,0", 4);
        fault(c, "l l", 1);
    }

    @Says(words = "An order is \"b\" person \"@\" stand (borrow)")
    static void anOrderToBorrow(Check c) {
        RibbedLoans x = new RibbedLoans();
        x.buy(2, 3);
        Town.write(x, "b11@2;b0@2");
        c.due("carryOut", x.carryOut(), 2);
        c.due("umbrella of 11", x.person(11, 1), 0);
        c.due("umbrella of 0", x.person(0, 1), 1);
        fault(c, "B1@2", 0);
        fault(c, "b@2", 1);
        fault(c, "b1,2", 2);
        fault(c, "b1", 2);
        fault(c, "b1@", 3);
        fault(c, "b1@@2", 3);
        fault(c, "b1@,", 3);
    }

    @Says(words = "\"r\" person \"@\" stand (bring back)")
    static void anOrderToBringBack(Check c) {
        RibbedLoans x = new RibbedLoans();
        x.buy(2, 3);
        x.borrow(11, 2);
        x.borrow(0, 2);
        x.hour(3, 0);
        Town.write(x, "r11@7;r0@0");
        c.due("carryOut", x.carryOut(), 2);
        c.due("stand of 11", x.person(11, 4), 7);
        c.due("fee of 11", x.person(11, 5), 1);
        c.due("stand of the second", x.umbrella(1, 1), 0);
        fault(c, "R1@2", 0);
        fault(c, "r@2", 1);
        fault(c, "r1,2", 2);
        fault(c, "r1@", 3);
    }

    @Says(words = "\"h\" rain \",\" gusts (an hour passes)")
    static void anOrderOfAnHour(Check c) {
        RibbedLoans x = new RibbedLoans();
        x.buy(2, 3);
        x.borrow(11, 2);
        Town.write(x, "h0,0;h3,2;h9,3");
        c.due("carryOut", x.carryOut(), 3);
        c.due("hour", x.count(0), 3);
        c.due("wear", x.umbrella(0, 2), 22);
        c.due("showers", x.person(11, 2), 2);
        c.due("surges", x.count(13), 1);
        fault(c, "H1,2", 0);
        fault(c, "h,2", 1);
        fault(c, "h1@2", 2);
        fault(c, "h1;", 2);
        fault(c, "h1,", 3);
        fault(c, "h1,,2", 3);
    }

    @Says(words = "or \"l\" (level).")
    static void anOrderToLevel(Check c) {
        RibbedLoans x = new RibbedLoans();
        x.buy(2, 3);
        Town.write(x, "l");
        c.due("carryOut", x.carryOut(), 1);
        c.due("one is left", x.stand(2, 1), 1);
        fault(c, "L", 0);
        fault(c, "l1", 1);
        fault(c, "l1@2", 1);
    }

    @Says(words = "A number is one or two digits")
    static void oneOrTwoDigits(Check c) {
        for (int digit = 0; digit <= 9; digit++) {
            noFault(c, "h" + digit + ",4", 0);
            noFault(c, "h" + digit + ",0", 1);
            noFault(c, "b" + digit + "@2", 1);
            noFault(c, "b5@" + digit, digit == 2 ? 1 : 0);
        }
        for (int number = 10; number <= 99; number++) {
            noFault(c, "b" + number + "@2", number < 12 ? 1 : 0);
            noFault(c, "b1@" + number, 0);
            noFault(c, "h" + number + ",0", 0);
            noFault(c, "h0," + number, 0);
        }
        fault(c, "b100@2", 3);
        fault(c, "b1@100", 5);
        fault(c, "r123@2", 3);
        fault(c, "h111,0", 3);
        fault(c, "h1,111", 5);
        fault(c, "h-1,0", 1);
        fault(c, "h+1,0", 1);
        // The signs right before and behind the digits.
        fault(c, "h/,0", 1);
        fault(c, "h:,0", 1);
        fault(c, "h1/,0", 2);
        fault(c, "h1:,0", 2);
        fault(c, "h0,1/", 4);
        fault(c, "h0,1:", 4);
        fault(c, "h0,12:", 5);
        fault(c, "h\u00b2,0", 1);
    }

    @Says(words = ", the first of two not 0.")
    static void noLeadingZero(Check c) {
        noFault(c, "b0@2", 1);
        fault(c, "b01@2", 2);
        fault(c, "b00@2", 2);
        fault(c, "b1@02", 4);
        fault(c, "b1@00", 4);
        fault(c, "r09@2", 2);
        fault(c, "h00,0", 2);
        fault(c, "h0,00", 4);
        fault(c, "h0,01", 4);
    }

    @Says(words = "The fault of the text is the index, from 0, of the first character that is not allowed at its place")
    static void theFirstCharacterThatIsNotAllowed(Check c) {
        fault(c, "x", 0);
        fault(c, " l", 0);
        fault(c, "1", 0);
        fault(c, "@", 0);
        fault(c, "\u0001", 0);
        fault(c, "\u00ff", 0);
        fault(c, "l\u0001", 1);
        fault(c, "bx", 1);
        fault(c, "b b", 1);
        fault(c, "b1 @2", 2);
        fault(c, "b1@ 2", 3);
        fault(c, "b1@2 ", 4);
        fault(c, "b1@2;x;y", 5);
        fault(c, "b1@2;h1,x", 8);
        fault(c, "h12,34;r56@78;b90@12;zz", 21);
        fault(c, longText(80, "lx"), 79);
    }

    @Says(words = ", or the length of the text if it ends too early (as the empty text does).")
    static void theLengthIfItEndsTooEarly(Check c) {
        fault(c, "", 0);
        fault(c, "b", 1);
        fault(c, "b1", 2);
        fault(c, "b12", 3);
        fault(c, "b12@", 4);
        fault(c, "h", 1);
        fault(c, "h9", 2);
        fault(c, "h9,", 3);
        fault(c, "l;", 2);
        fault(c, "l;r", 3);
        fault(c, "b1@2;", 5);
        fault(c, longText(80, "h12,"), 80);
        fault(c, longText(80, ""), 80);
        fault(c, longText(79, "h1,"), 79);
    }

    // ---- append

    @Says(promise = 15, words = "Appends a character to the text.")
    static void appendAtTheEnd(Check c) {
        RibbedLoans x = new RibbedLoans();
        x.buy(2, 1);
        x.append('b');
        x.append('7');
        x.append('@');
        x.append('2');
        c.due("in this order", x.carryOut(), 1);
        c.due("person 7", x.person(7, 1), 0);
        c.due("no action but the buying and the orders", x.count(16), 2);
    }

    @Says(promise = 15, words = {"`character`: character code, 1 to 255",
        "INVALID_ARGUMENT if character is out of range"})
    static void appendCharacters1To255(Check c) {
        RibbedLoans x = new RibbedLoans();
        for (int character : new int[] {0, 256, -1, MIN, MAX, 65536 + 'l', 256 + 'l'}) {
            c.invalid("character " + character, x, () -> x.append(character));
        }
        c.due("least", x.append(1), 1);
        c.due("most", x.append(255), 2);
        x.clearText();
        for (int character = 1; character <= 255; character++) {
            if (x.append(character) == 80) {
                c.due("full", x.clearText(), 80);
            }
        }
        c.due("the rest of 255", x.count(17), 15);
    }

    @Says(promise = 15, words = "Returns the new length of the text")
    static void appendReturnsTheNewLength(Check c) {
        RibbedLoans x = new RibbedLoans();
        for (int length = 1; length <= 80; length++) {
            c.due("length", x.append('l'), length);
            c.due("count", x.count(17), length);
        }
    }

    @Says(promise = 15, words = "character is out of range; CAPACITY_EXCEEDED if the text already has 80 characters.")
    static void appendToAFullText(Check c) {
        RibbedLoans x = new RibbedLoans();
        Town.write(x, longText(79, "l"));
        c.due("79", x.count(17), 79);
        c.due("the 80th", x.append('x'), 80);
        c.exceeded("the 81st", x, () -> x.append(';'));
        c.invalid("range first", x, () -> x.append(0));
        c.invalid("range first", x, () -> x.append(256));
        c.keeps("the 80th is still there", x, x::carryOut, -1079);
        x.clearText();
        c.due("room again", x.append('l'), 1);
    }

    // ---- clearText

    @Says(promise = 16, words = "Makes the text empty.")
    static void clearTextMakesItEmpty(Check c) {
        RibbedLoans x = new RibbedLoans();
        Town.write(x, "l;l;l");
        x.clearText();
        c.due("length", x.count(17), 0);
        c.due("no action", x.count(16), 0);
        c.keeps("nothing to carry out", x, x::carryOut, -1000);
        x.append('l');
        c.due("nothing is left of it", x.carryOut(), 1);
    }

    @Says(promise = 16, words = "Returns the previous length of the text.")
    static void clearTextReturnsThePreviousLength(Check c) {
        RibbedLoans x = new RibbedLoans();
        c.due("empty", x.clearText(), 0);
        Town.write(x, "xyz");
        c.due("three", x.clearText(), 3);
        c.due("again", x.clearText(), 0);
        Town.write(x, longText(80, "xx"));
        c.due("full", x.clearText(), 80);
    }

    // ---- carryOut

    @Says(promise = 17, words = "Carries out the orders of the text, one after another")
    static void carryOutInOrder(Check c) {
        RibbedLoans x = new RibbedLoans();
        x.buy(2, 5);
        Town.write(x, "b0@2;b10@2;h4,3;r10@0;l;h0,0;b10@0");
        c.due("carryOut", x.carryOut(), 7);
        c.due("wear of 0", x.umbrella(0, 2), 10);
        c.due("showers of 0", x.person(0, 2), 1);
        c.due("fee of 10", x.person(10, 5), 1);
        c.due("levelled", x.stand(2, 1), 1);
        c.due("the loan at the end", x.person(10, 1), 1);
        c.due("hours", x.count(0), 2);
    }

    @Says(promise = 17, words = "up to the first one that returns an error code")
    static void carryOutUpToTheFirstError(Check c) {
        String[] refused = {"b12@2", "b1@8", "b99@99", "b5@2", "b1@3", "r12@2", "r5@8", "r0@2", "r5@6", "h10,0", "h0,4",
            "h99,99"};
        for (String order : refused) {
            RibbedLoans x = new RibbedLoans();
            x.buy(2, 2);
            x.set(6, 1);
            x.buy(6, 1);
            Town.write(x, "h1,0;b5@2;" + order + ";h1,0;b4@2");
            c.due("up to " + order, x.carryOut(), 2);
            c.due("the one before", x.person(5, 1), 0);
            c.due("not the ones behind", x.count(0), 1);
            c.due("nor these", x.person(4, 1), NONE);
        }
        RibbedLoans x = new RibbedLoans();
        Town.waitUntil(x, 498);
        Town.write(x, "h0,0;h0,0;h0,0;l");
        c.due("up to the hour 500", x.carryOut(), 2);
        c.due("present hour", x.count(0), 500);
    }

    @Says(promise = 17, words = ", and makes the text empty.")
    static void carryOutMakesTheTextEmpty(Check c) {
        noFault(c, "l;l", 2);
        noFault(c, "b12@2", 0);
        noFault(c, "l;b12@2;l", 1);
        RibbedLoans x = new RibbedLoans();
        Town.write(x, "l;l");
        x.carryOut();
        x.append('l');
        c.due("nothing is left of it", x.carryOut(), 1);
    }

    @Says(promise = 17, words = "If the text has no fault, this is one action")
    static void carryOutIsOneAction(Check c) {
        RibbedLoans x = new RibbedLoans();
        x.buy(1, 2);
        Town.write(x, "b1@1;h3,0;r1@1;l");
        c.isAction("carryOut", x, x::carryOut);
        c.due("the text does not come back", x.count(17), 0);
        Town.write(x, "b1@1;b1@1");
        c.isAction("carryOut up to an error", x, x::carryOut);
        for (int i = 0; i < 6; i++) {
            x.level();
        }
        Town.write(x, "l;h0,0");
        c.isAction("carryOut with a full history", x, x::carryOut);
    }

    @Says(promise = 17, words = ", also if no order is carried out.")
    static void carryOutOfNoOrderIsAnAction(Check c) {
        RibbedLoans x = new RibbedLoans();
        x.buy(1, 2);
        Town.write(x, "r1@1;l");
        c.isAction("carryOut", x, x::carryOut);
        Town.write(x, "b12@0");
        c.due("none", x.carryOut(), 0);
        c.due("states", x.count(16), 2);
    }

    @Says(promise = 17, words = "Returns the number of orders that are carried out")
    static void carryOutReturnsHowMany(Check c) {
        noFault(c, "r1@1", 0);
        noFault(c, "l", 1);
        noFault(c, "h0,0;h0,0;h10,0;h0,0", 2);
        RibbedLoans x = new RibbedLoans();
        Town.write(x, longText(79, "l"));
        c.due("as many as can be", x.carryOut(), 40);
    }

    @Says(promise = 17, words = "-1000 minus the fault of the text if it has one")
    static void carryOutReturnsTheFault(Check c) {
        fault(c, "", 0);
        fault(c, "?", 0);
        fault(c, "l?", 1);
        fault(c, "h1,1;b1@2;r1@", 13);
        fault(c, longText(80, "h12,"), 80);
    }

    @Says(promise = 17, words = "(which is an error).")
    static void carryOutOfAFaultIsAnError(Check c) {
        RibbedLoans x = new RibbedLoans();
        x.buy(2, 2);
        Town.write(x, "b1@2;h1,1;l;");
        c.keeps("no order is carried out, no state is recorded", x, x::carryOut, -1012);
        c.keeps("again", x, x::carryOut, -1012);
        x.append('l');
        c.due("the text is still there", x.carryOut(), 4);
    }
}
