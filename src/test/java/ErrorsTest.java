import java.util.ArrayList;
import java.util.List;
import java.util.function.Function;
import java.util.function.ToIntFunction;

/** The terms on errors: what refused calls leave alone, which error comes first, and the constants. */
public final class ErrorsTest {
    private static final int INVALID = RibbedLoans.INVALID_ARGUMENT;
    private static final int ILLEGAL = RibbedLoans.ILLEGAL_STATE;
    private static final int EXCEEDED = RibbedLoans.CAPACITY_EXCEEDED;
    private static final int NONE = RibbedLoans.NONE;

    public static void main(String[] args) {
        Sentences.run(ErrorsTest.class);
    }

    private static final class Refusal {
        final String call;
        final int want;
        final ToIntFunction<RibbedLoans> made;

        Refusal(String call, int want, ToIntFunction<RibbedLoans> made) {
            this.call = call;
            this.want = want;
            this.made = made;
        }
    }

    /** Loans, vans, a workshop, one snapshot, a full history, and a text that ends too early. */
    private static RibbedLoans busy() {
        RibbedLoans x = Town.worn(0, 40, 50, 60, 5, 6, 7, 8, 31);
        Town.bringBroken(x, 0);
        x.load(1, 0, 2);
        x.set(3, 1);
        x.buy(3, 1);
        Town.pay(x, 5, 0, 31);
        x.borrow(8, 0);
        x.take(1);
        x.hour(4, 2);
        x.buy(6, 2);
        Town.write(x, "h1,1;r8@");
        return x;
    }

    /** Each refusal is possible in the busy city. */
    private static List<Refusal> refusals() {
        List<Refusal> all = new ArrayList<>();
        all.add(new Refusal("buy(8, 1)", INVALID, x -> x.buy(8, 1)));
        all.add(new Refusal("buy(0, 20)", ILLEGAL, x -> x.buy(0, 20)));
        all.add(new Refusal("buy(3, 1)", EXCEEDED, x -> x.buy(3, 1)));
        all.add(new Refusal("set(9, 1)", INVALID, x -> x.set(9, 1)));
        all.add(new Refusal("set(6, 1)", ILLEGAL, x -> x.set(6, 1)));
        all.add(new Refusal("borrow(12, 0)", INVALID, x -> x.borrow(12, 0)));
        all.add(new Refusal("borrow(8, 0)", ILLEGAL, x -> x.borrow(8, 0)));
        all.add(new Refusal("borrow(5, 0)", ILLEGAL, x -> x.borrow(5, 0)));
        all.add(new Refusal("borrow(7, 4)", ILLEGAL, x -> x.borrow(7, 4)));
        all.add(new Refusal("bringBack(8, 8)", INVALID, x -> x.bringBack(8, 8)));
        all.add(new Refusal("bringBack(7, 0)", ILLEGAL, x -> x.bringBack(7, 0)));
        all.add(new Refusal("bringBack(8, 3)", EXCEEDED, x -> x.bringBack(8, 3)));
        all.add(new Refusal("hour(10, 0)", INVALID, x -> x.hour(10, 0)));
        all.add(new Refusal("load(2, 0, 1)", INVALID, x -> x.load(2, 0, 1)));
        all.add(new Refusal("load(0, 3, 2)", ILLEGAL, x -> x.load(0, 3, 2)));
        all.add(new Refusal("unload(1, 4, 11)", INVALID, x -> x.unload(1, 4, 11)));
        all.add(new Refusal("unload(1, 4, 3)", ILLEGAL, x -> x.unload(1, 4, 3)));
        all.add(new Refusal("unload(1, 3, 1)", EXCEEDED, x -> x.unload(1, 3, 1)));
        all.add(new Refusal("toWorkshop(2)", INVALID, x -> x.toWorkshop(2)));
        all.add(new Refusal("toWorkshop(1)", ILLEGAL, x -> x.toWorkshop(1)));
        all.add(new Refusal("mend(8)", INVALID, x -> x.mend(8)));
        all.add(new Refusal("mend(3)", EXCEEDED, x -> x.mend(3)));
        all.add(new Refusal("take(2)", INVALID, x -> x.take(2)));
        all.add(new Refusal("restore(2)", INVALID, x -> x.restore(2)));
        all.add(new Refusal("restore(0)", ILLEGAL, x -> x.restore(0)));
        all.add(new Refusal("append(0)", INVALID, x -> x.append(0)));
        all.add(new Refusal("carryOut()", -1008, RibbedLoans::carryOut));
        all.add(new Refusal("count(18)", INVALID, x -> x.count(18)));
        all.add(new Refusal("umbrella(60, 0)", INVALID, x -> x.umbrella(60, 0)));
        all.add(new Refusal("stand(8, 0)", INVALID, x -> x.stand(8, 0)));
        all.add(new Refusal("person(12, 0)", INVALID, x -> x.person(12, 0)));
        all.add(new Refusal("inVan(2, 0)", INVALID, x -> x.inVan(2, 0)));
        all.add(new Refusal("inVan(1, 2)", NONE, x -> x.inVan(1, 2)));
        all.add(new Refusal("feeIn(8, 51, 0)", INVALID, x -> x.feeIn(8, 51, 0)));
        all.add(new Refusal("feeIn(7, 50, 9)", ILLEGAL, x -> x.feeIn(7, 50, 9)));
        all.add(new Refusal("breaksIn(8, 0, 4)", INVALID, x -> x.breaksIn(8, 0, 4)));
        all.add(new Refusal("breaksIn(7, 9, 3)", ILLEGAL, x -> x.breaksIn(7, 9, 3)));
        all.add(new Refusal("breaksIn(8, 0, 0)", NONE, x -> x.breaksIn(8, 0, 0)));
        all.add(new Refusal("shortest(2)", INVALID, x -> x.shortest(2)));
        return all;
    }

    /** What the history, the slots and the text hold, seen by calls that use them up. */
    private static List<Function<RibbedLoans, List<Integer>>> deepLooks() {
        List<Function<RibbedLoans, List<Integer>>> looks = new ArrayList<>();
        looks.add(x -> {
            List<Integer> seen = Check.look(x);
            for (int i = 0; i < 6; i++) {
                seen.add(x.undo());
                seen.addAll(Check.look(x));
            }
            return seen;
        });
        looks.add(x -> {
            List<Integer> seen = new ArrayList<>();
            for (int slot = 0; slot < 2; slot++) {
                seen.add(x.restore(slot));
                seen.addAll(Check.look(x));
            }
            return seen;
        });
        looks.add(x -> {
            List<Integer> seen = new ArrayList<>();
            seen.add(x.append('7'));
            seen.add(x.carryOut());
            seen.addAll(Check.look(x));
            return seen;
        });
        return looks;
    }

    @Says(words = "A call that returns an error code changes nothing.")
    static void refusedCallsChangeNothing(Check c) {
        for (Refusal refusal : refusals()) {
            for (Function<RibbedLoans, List<Integer>> look : deepLooks()) {
                RibbedLoans refused = busy();
                c.due(refusal.call, refusal.made.applyAsInt(refused), refusal.want);
                c.holds(refusal.call + " changes nothing", look.apply(refused).equals(look.apply(busy())));
            }
        }
        c.due("the text is whole then", deepLooks().get(2).apply(busy()).get(1), 2);
    }

    @Says(words = "A call that returns an error code changes nothing.")
    static void refusedForWantOfRoomChangesNothing(Check c) {
        RibbedLoans x = busy();
        x.clearText();
        for (int i = 0; i < 80; i++) {
            x.append('0' + i % 10);
        }
        c.exceeded("append to a full text", x, () -> x.append('l'));
        c.keeps("the text of before", x, x::carryOut, -1000);
        x.unload(1, 6, 2);
        x.set(7, 20);
        x.buy(7, 11);
        x.load(1, 7, 10);
        c.exceeded("load to a full van", x, () -> x.load(1, 7, 1));
        Town.waitUntil(x, 500);
        c.exceeded("hour at 500", x, () -> x.hour(9, 3));
    }

    @Says(words = "If several error conditions apply, the method returns the one that its description lists first")
    static void theFirstErrorIsReturned(Check c) {
        RibbedLoans x = new RibbedLoans();
        x.set(0, 1);
        x.buy(0, 1);
        c.invalid("buy: range, coins, room", x, () -> x.buy(0, 21));
        c.illegal("buy: coins, room", x, () -> x.buy(0, 20));
        c.invalid("set: range, umbrellas", x, () -> x.set(0, 0));
        c.invalid("borrow: range, no best one", x, () -> x.borrow(12, 1));
        c.invalid("bringBack: range, no umbrella", x, () -> x.bringBack(0, 8));
        c.illegal("bringBack: no umbrella, full", x, () -> x.bringBack(0, 0));
        c.invalid("load: range, umbrellas, van", x, () -> x.load(0, 0, 11));
        c.invalid("unload: range, umbrellas, room", x, () -> x.unload(0, 0, 11));
        c.illegal("unload: umbrellas, room", x, () -> x.unload(0, 0, 1));
        c.invalid("toWorkshop: range, none", x, () -> x.toWorkshop(2));
        c.invalid("mend: range, fewer than two", x, () -> x.mend(8));
        c.illegal("mend: fewer than two, full", x, () -> x.mend(0));
        c.invalid("restore: range, empty", x, () -> x.restore(2));
        c.invalid("feeIn: range, no umbrella", x, () -> x.feeIn(0, 51, 0));
        c.invalid("breaksIn: range, no umbrella", x, () -> x.breaksIn(0, 10, 0));
        for (int i = 0; i < 80; i++) {
            x.append('l');
        }
        c.invalid("append: range, full", x, () -> x.append(256));
        Town.waitUntil(x, 500);
        c.invalid("hour: range, 500", x, () -> x.hour(0, 4));
    }

    @Says(words = "NONE is no error, and it is returned only if no error condition applies.")
    static void noneComesLast(Check c) {
        RibbedLoans x = new RibbedLoans();
        for (int stand = 0; stand < 8; stand++) {
            x.buy(stand, 2);
        }
        c.keeps("nothing in the van", x, () -> x.inVan(0, 0), NONE);
        c.invalid("nothing in no van", x, () -> x.inVan(2, 0));
        c.invalid("nothing at no place", x, () -> x.inVan(0, -1));
        c.keeps("no stand that wants one", x, () -> x.shortest(0), NONE);
        c.invalid("nor any such what", x, () -> x.shortest(2));
        c.illegal("no umbrella that does not break", x, () -> x.breaksIn(0, 0, 0));
        x.borrow(0, 0);
        c.keeps("one that does not break", x, () -> x.breaksIn(0, 0, 0), NONE);
        c.keeps("none in hand", x, () -> x.person(1, 1), NONE);
        c.invalid("none in the hand of nobody", x, () -> x.person(12, 1));
        c.invalid("no stand, so no best one", x, () -> x.stand(8, 3));
        c.invalid("no umbrella, so nobody's", x, () -> x.umbrella(16, 1));
    }

    @Says(words = {"The constants:", "`INVALID_ARGUMENT = -1`: An argument is out of range, or names something that"
        + " does not exist."})
    static void invalidArgument(Check c) {
        c.due("INVALID_ARGUMENT", RibbedLoans.INVALID_ARGUMENT, -1);
        RibbedLoans x = new RibbedLoans();
        c.due("out of range", x.count(-1), -1);
        c.due("does not exist", x.umbrella(0, 0), -1);
    }

    @Says(words = "`ILLEGAL_STATE = -2`: The call is not possible in the present state.")
    static void illegalState(Check c) {
        c.due("ILLEGAL_STATE", RibbedLoans.ILLEGAL_STATE, -2);
        c.due("undo", new RibbedLoans().undo(), -2);
    }

    @Says(words = "`CAPACITY_EXCEEDED = -3`: There is no room.")
    static void capacityExceeded(Check c) {
        c.due("CAPACITY_EXCEEDED", RibbedLoans.CAPACITY_EXCEEDED, -3);
        c.due("buy", new RibbedLoans().buy(0, 9), -3);
    }

    @Says(words = "`NONE = -9`: There is no such value.")
    static void none(Check c) {
        c.due("NONE", RibbedLoans.NONE, -9);
        c.due("best one", new RibbedLoans().stand(0, 3), -9);
    }
}
