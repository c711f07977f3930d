import java.util.ArrayList;
import java.util.List;
import java.util.function.IntSupplier;

/** Compares answers with those that are due, and ends a test. */
final class Check {
    private static final int MOST_LINES = 40;

    private int made;
    private int wrong;

    void due(String call, long got, long want) {
        made++;
        if (got != want) {
            tell(call + " answered " + got + ", due is " + want);
        }
    }

    void holds(String what, boolean held) {
        made++;
        if (!held) {
            tell(what + " does not hold");
        }
    }

    /** The call answers an error code and changes nothing that can be looked at. */
    void refused(String call, RibbedLoans x, IntSupplier made, int want) {
        List<Integer> before = look(x);
        due(call, made.getAsInt(), want);
        holds(call + " changes nothing", look(x).equals(before));
    }

    private void tell(String line) {
        wrong++;
        if (wrong <= MOST_LINES) {
            System.out.println(line);
        }
    }

    int wrongSoFar() {
        return wrong;
    }

    void end(String name) {
        System.out.println(name + ": " + made + " checks, " + wrong + " wrong");
        if (wrong != 0 || made == 0) {
            System.exit(1);
        }
    }

    /** All that can be looked at. */
    static List<Integer> look(RibbedLoans x) {
        List<Integer> seen = new ArrayList<>();
        for (int what = 0; what < 18; what++) {
            seen.add(x.count(what));
        }
        seen.addAll(lookAtCity(x));
        return seen;
    }

    /** All that a snapshot keeps. */
    static List<Integer> lookAtCity(RibbedLoans x) {
        List<Integer> seen = new ArrayList<>();
        for (int what = 0; what < 15; what++) {
            seen.add(x.count(what));
        }
        for (int u = 0; u < x.count(1); u++) {
            for (int what = 0; what < 5; what++) {
                seen.add(x.umbrella(u, what));
            }
        }
        for (int stand = 0; stand < 8; stand++) {
            for (int what = 0; what < 6; what++) {
                seen.add(x.stand(stand, what));
            }
        }
        for (int person = 0; person < 12; person++) {
            for (int what = 0; what < 6; what++) {
                seen.add(x.person(person, what));
            }
        }
        for (int van = 0; van < 2; van++) {
            for (int place = 0; place < 11; place++) {
                seen.add(x.inVan(van, place));
            }
        }
        return seen;
    }

    static void write(RibbedLoans x, String text) {
        for (int i = 0; i < text.length(); i++) {
            x.append(text.charAt(i));
        }
    }
}
