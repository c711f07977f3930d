/** Promises 15 to 17: append, clearText, carryOut. */
public final class TextTest {
    private static final Check CHECK = new Check();

    public static void main(String[] args) {
        promise15();
        promise16();
        promise17Faults();
        promise17Orders();
        promise17StopsAtErrors();
        promise17IsOneAction();
        promise17LongTexts();
        CHECK.end("TextTest");
    }

    private static void promise15() {
        RibbedLoans x = new RibbedLoans();
        for (int wrong : new int[] {0, -1, 256, Integer.MAX_VALUE, Integer.MIN_VALUE, 65536 + 98}) {
            CHECK.refused("15: out of range", x, () -> x.append(wrong), RibbedLoans.INVALID_ARGUMENT);
        }
        CHECK.due("15: least", x.append(1), 1);
        CHECK.due("15: most", x.append(255), 2);
        for (int i = 3; i <= 80; i++) {
            CHECK.due("15: length", x.append('b'), i);
        }
        CHECK.refused("15: full", x, () -> x.append('b'), RibbedLoans.CAPACITY_EXCEEDED);
        CHECK.refused("15: range first", x, () -> x.append(0), RibbedLoans.INVALID_ARGUMENT);
        CHECK.due("15: no action", x.count(16), 0);
        CHECK.due("15: length", x.count(17), 80);
    }

    private static void promise16() {
        RibbedLoans x = new RibbedLoans();
        CHECK.due("16: empty", x.clearText(), 0);
        Check.write(x, "xyz");
        CHECK.due("16: previous", x.clearText(), 3);
        CHECK.due("16: now empty", x.count(17), 0);
        CHECK.due("16: no action", x.count(16), 0);
        CHECK.due("16: anew", x.append('l'), 1);
        CHECK.due("16: nothing is left of it", x.carryOut(), 1);
    }

    private static void promise17Faults() {
        Object[][] texts = {
            {"", 0}, {"x", 0}, {";", 0}, {"L", 0}, {"0", 0}, {" l", 0}, {"\u0001", 0}, {"\u00ff", 0},
            {"b", 1}, {"b@", 1}, {"b-1@2", 1}, {"b1", 2}, {"b1,", 2}, {"b12", 3}, {"b123@0", 3}, {"b01@0", 2},
            {"b00@0", 2}, {"b1@", 3}, {"b1@;", 3}, {"b1@x", 3}, {"b1@00", 4}, {"b1@07", 4}, {"b1@123", 5},
            {"b1@1,", 4}, {"r", 1}, {"r5", 2}, {"r5,1", 2}, {"r5@1@", 4}, {"h", 1}, {"h,", 1}, {"h1@1", 2},
            {"h1,", 3}, {"h1,x", 3}, {"h1,1,", 4}, {"h99,999", 6}, {"l;", 2}, {"l;;", 2}, {"ll", 1}, {"l1", 1},
            {"l;b", 3}, {"l;x", 2}, {"b1@2;r1@", 8}, {"b1@2 ;l", 4}, {"b1@2;l;h3,4;", 12}, {"b1@2l", 4},
            {"b 1@2", 1}, {"b1 @2", 2}, {"b1@ 2", 3}, {"b:@1", 1}, {"b/@1", 1}, {"b1@1:", 4}, {"b1@1/", 4},
        };
        for (Object[] row : texts) {
            String text = (String) row[0];
            RibbedLoans x = new RibbedLoans();
            x.buy(2, 3);
            Check.write(x, text);
            CHECK.refused("17: fault of <" + text + ">", x, x::carryOut, -1000 - (Integer) row[1]);
            CHECK.due("17: the text stays", x.clearText(), text.length());
        }
    }

    private static void promise17Orders() {
        RibbedLoans x = new RibbedLoans();
        x.buy(2, 5);
        Check.write(x, "b0@2;b10@2;h4,3;r10@0;l;h0,0");
        CHECK.due("17: all", x.carryOut(), 6);
        CHECK.due("17: empty text", x.count(17), 0);
        CHECK.due("17: borrowed", x.person(0, 1), 0);
        CHECK.due("17: showers", x.person(0, 2), 1);
        CHECK.due("17: wear", x.umbrella(0, 2), 10);
        CHECK.due("17: brought back", x.person(10, 4), 0);
        CHECK.due("17: fee", x.person(10, 5), 1);
        CHECK.due("17: levelled", x.stand(2, 1), 1);
        CHECK.due("17: hours", x.count(0), 2);
        Check.write(x, "l");
        CHECK.due("17: one order", x.carryOut(), 1);
    }

    private static void promise17StopsAtErrors() {
        String[] bad = {"b12@2", "b1@8", "r12@2", "r0@9", "h10,0", "h0,4", "h99,99", "r0@2", "b1@3", "b10@99"};
        for (String order : bad) {
            RibbedLoans x = new RibbedLoans();
            x.buy(2, 2);
            Check.write(x, "h1,0;b5@2;" + order + ";h1,0");
            CHECK.due("17: up to " + order, x.carryOut(), 2);
            CHECK.due("17: before it", x.person(5, 1), 0);
            CHECK.due("17: not after it", x.count(0), 1);
            CHECK.due("17: empty text", x.count(17), 0);
        }
        RibbedLoans y = new RibbedLoans();
        for (int i = 0; i < 499; i++) {
            y.hour(0, 0);
        }
        Check.write(y, "h0,0;h0,0;l");
        CHECK.due("17: the last hour", y.carryOut(), 1);
    }

    private static void promise17IsOneAction() {
        RibbedLoans x = new RibbedLoans();
        x.buy(1, 2);
        Check.write(x, "b1@1;h3,0;r1@1;l");
        CHECK.due("17: four", x.carryOut(), 4);
        CHECK.due("17: one state", x.count(16), 2);
        CHECK.due("17: undone at once", x.undo(), 1);
        CHECK.due("17: no hour", x.count(0), 0);
        CHECK.due("17: no loan", x.count(12), 0);
        CHECK.due("17: the text is not back", x.count(17), 0);
        Check.write(x, "r1@1;l");
        CHECK.due("17: none", x.carryOut(), 0);
        CHECK.due("17: still an action", x.count(16), 2);
        CHECK.due("17: empty text", x.count(17), 0);
    }

    private static void promise17LongTexts() {
        RibbedLoans x = new RibbedLoans();
        StringBuilder text = new StringBuilder("l");
        while (text.length() < 79) {
            text.append(";l");
        }
        Check.write(x, text.toString());
        CHECK.due("17: 40 orders", x.carryOut(), 40);
        Check.write(x, text + ";");
        CHECK.due("17: too early at 80", x.carryOut(), -1080);
        x.clearText();
        StringBuilder hours = new StringBuilder("h1,0");
        while (hours.length() < 79) {
            hours.append(";h0,1");
        }
        Check.write(x, hours.append('1').toString());
        CHECK.due("17: 80 characters", x.count(17), 80);
        CHECK.due("17: up to the last one", x.carryOut(), 15);
    }
}
