import java.util.ArrayList;
import java.util.List;
import java.util.function.IntSupplier;

/** Compares answers with those that are due. */
final class Check {
    private static final int MOST_LINES = 20;

    private final String test;
    private int made;
    private int wrong;

    Check(String test) {
        this.test = test;
    }

    void due(String call, long got, long want) {
        made++;
        if (got != want) {
            tell(call + " answered " + got + ", due is " + want);
        }
    }

    void holds(String what, boolean held) {
        made++;
        if (!held) {
            tell(what + " does not hold");
        }
    }

    /** The call answers so, and changes nothing that can be looked at. */
    void keeps(String call, RibbedLoans x, IntSupplier made, int want) {
        List<Integer> before = look(x);
        due(call, made.getAsInt(), want);
        holds(call + " changes nothing", look(x).equals(before));
    }

    void invalid(String call, RibbedLoans x, IntSupplier made) {
        keeps(call, x, made, RibbedLoans.INVALID_ARGUMENT);
    }

    void illegal(String call, RibbedLoans x, IntSupplier made) {
        keeps(call, x, made, RibbedLoans.ILLEGAL_STATE);
    }

    void exceeded(String call, RibbedLoans x, IntSupplier made) {
        keeps(call, x, made, RibbedLoans.CAPACITY_EXCEEDED);
    }

    /** The call succeeds, and records the state before it, which undo brings back. */
    void isAction(String call, RibbedLoans x, IntSupplier made) {
        List<Integer> before = lookAtCity(x);
        int snapshots = x.count(15);
        int states = x.count(16);
        holds(call + " succeeds", made.getAsInt() >= 0);
        due("states behind " + call, x.count(16), Math.min(5, states + 1));
        due("undo of " + call, x.undo(), Math.min(4, states));
        holds("all is as before " + call, lookAtCity(x).equals(before));
        due("snapshots before " + call, x.count(15), snapshots);
    }

    private void tell(String line) {
        wrong++;
        if (wrong <= MOST_LINES) {
            System.out.println(test + ": " + line);
        }
    }

    int wrongSoFar() {
        return wrong;
    }

    boolean passed() {
        if (made == 0) {
            tell("a check");
        }
        return wrong == 0;
    }

    /** Ends a test that is a program of its own. */
    void end() {
        boolean good = passed();
        System.out.println(test + ": " + made + " checks, " + wrong + " wrong");
        if (!good) {
            System.exit(1);
        }
    }

    /** All that can be looked at. */
    static List<Integer> look(RibbedLoans x) {
        List<Integer> seen = new ArrayList<>();
        for (int what = 0; what < 18; what++) {
            seen.add(x.count(what));
        }
        seen.addAll(lookAtCity(x));
        return seen;
    }

    /** All that a snapshot keeps. */
    static List<Integer> lookAtCity(RibbedLoans x) {
        List<Integer> seen = new ArrayList<>();
        for (int what = 0; what < 15; what++) {
            seen.add(x.count(what));
        }
        for (int u = 0; u < x.count(1); u++) {
            for (int what = 0; what < 5; what++) {
                seen.add(x.umbrella(u, what));
            }
        }
        for (int stand = 0; stand < 8; stand++) {
            for (int what = 0; what < 6; what++) {
                seen.add(x.stand(stand, what));
            }
        }
        for (int person = 0; person < 12; person++) {
            for (int what = 0; what < 6; what++) {
                seen.add(x.person(person, what));
            }
        }
        for (int van = 0; van < 2; van++) {
            for (int place = 0; place < 11; place++) {
                seen.add(x.inVan(van, place));
            }
        }
        return seen;
    }
}
