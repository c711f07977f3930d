import java.util.Arrays;
import java.util.function.ToIntFunction;

/** Long runs of calls on the class and on the model, side by side; every answer and every look must be alike. */
public final class ModelTest {
    private static final Check CHECK = new Check("ModelTest");
    private static final int RUNS = 400;
    /** More than the document tells of, so that some runs come to the last hour. */
    private static final int CALLS = 640;
    private static final int[] ODD = {-1, -2, 12, 8, 21, 20, 60, 61, 100, 256, Integer.MAX_VALUE, Integer.MIN_VALUE};
    private static final String SIGNS = "brhl@,;0123456789";
    private static final int ACTIONS = 19;
    private static final int CODES = 4;

    // What has been met, so that the runs are known to reach what they are for.
    private static final int[][] MET = new int[ACTIONS][CODES];

    private long seed;
    private final RibbedLoans real = new RibbedLoans();
    private final Model model = new Model();

    private ModelTest(long seed) {
        this.seed = seed * 0x9E3779B97F4A7C15L + 12345;
    }

    public static void main(String[] args) {
        for (int run = 0; run < RUNS && CHECK.wrongSoFar() == 0; run++) {
            new ModelTest(run).run(run);
        }
        allMet();
        CHECK.end();
    }

    private static void allMet() {
        // Rows as in step: success, invalid argument, illegal state, capacity exceeded.
        String[] want = {"1111", "1110", "1110", "1111", "1101", "1111", "1111", "1110", "1111", "1000", "1100",
            "1110", "1010", "1101", "1000", "1000", "1110", "1110", "1100"};
        for (int kind = 0; kind < ACTIONS; kind++) {
            for (int code = 0; code < CODES; code++) {
                if (want[kind].charAt(code) == '1') {
                    CHECK.holds("kind " + kind + " met answer " + -code, MET[kind][code] > 0);
                }
            }
        }
    }

    private int random(int bound) {
        seed = seed * 6364136223846793005L + 1442695040888963407L;
        return (int) ((seed >>> 33) % bound);
    }

    /** Mostly from least to most, now and then what is out of range. */
    private int pick(int least, int most) {
        int kind = random(40);
        if (kind == 0) {
            return ODD[random(ODD.length)];
        }
        if (kind == 1) {
            return random(2) == 0 ? least - 1 : most + 1;
        }
        return least + random(most - least + 1);
    }

    private void run(int run) {
        for (int call = 0; call < CALLS && CHECK.wrongSoFar() == 0; call++) {
            step(run, call);
            if (call % 8 == 0 || call == CALLS - 1) {
                compareLooks(run, call);
            }
        }
    }

    private interface Both {
        int on(ToIntFunction<RibbedLoans> onReal, ToIntFunction<Model> onModel);
    }

    private void step(int run, int call) {
        int kind = kindFor(run);
        int a = pick(0, 11);
        int s = random(3) == 0 ? pick(0, 7) : pick(0, 2);
        int n = random(3) == 0 ? pick(1, 20) : pick(1, 3);
        int rain = random(2) == 0 ? pick(0, 9) : pick(2, 4);
        int gusts = pick(0, 3);
        int van = pick(0, 1);
        int what = pick(0, 8);
        int value = random(2) == 0 ? pick(0, 5) : pick(1, 20);
        int hours = pick(0, 50);
        int character = random(3) == 0 ? pick(1, 255) : SIGNS.charAt(random(SIGNS.length()));
        String label = "run " + run + " call " + call + " kind " + kind + " "
            + Arrays.toString(new int[] {a, s, n, rain, gusts, van, what, value, hours, character});
        Both both = (onReal, onModel) -> {
            int want = onModel.applyAsInt(model);
            CHECK.due(label, onReal.applyAsInt(real), want);
            return want;
        };
        int answer;
        switch (kind) {
            case 0: answer = both.on(x -> x.buy(s, n), x -> x.buy(s, n)); break;
            case 1: answer = both.on(x -> x.set(what, value), x -> x.set(what, value)); break;
            case 2: answer = both.on(x -> x.borrow(a, s), x -> x.borrow(a, s)); break;
            case 3: answer = both.on(x -> x.bringBack(a, s), x -> x.bringBack(a, s)); break;
            case 4: answer = both.on(x -> x.hour(rain, gusts), x -> x.hour(rain, gusts)); break;
            case 5: answer = both.on(x -> x.load(van, s, n), x -> x.load(van, s, n)); break;
            case 6: answer = both.on(x -> x.unload(van, s, n), x -> x.unload(van, s, n)); break;
            case 7: answer = both.on(x -> x.toWorkshop(van), x -> x.toWorkshop(van)); break;
            case 8: answer = both.on(x -> x.mend(s), x -> x.mend(s)); break;
            case 9: answer = both.on(RibbedLoans::level, Model::level); break;
            case 10: answer = both.on(x -> x.take(van), x -> x.take(van)); break;
            case 11: answer = both.on(x -> x.restore(van), x -> x.restore(van)); break;
            case 12: answer = both.on(RibbedLoans::undo, Model::undo); break;
            case 13: answer = both.on(x -> x.append(character), x -> x.append(character)); break;
            case 14: answer = both.on(RibbedLoans::clearText, Model::clearText); break;
            case 15: answer = writeAndCarryOut(both); break;
            case 16: answer = both.on(x -> x.feeIn(a, hours, rain), x -> x.feeIn(a, hours, rain)); break;
            case 17: answer = both.on(x -> x.breaksIn(a, rain, gusts), x -> x.breaksIn(a, rain, gusts)); break;
            default: answer = both.on(x -> x.shortest(van), x -> x.shortest(van)); break;
        }
        int code = answer >= 0 ? 0 : -answer;
        if (code < CODES) {
            MET[kind][code]++;
        }
    }

    /** The kinds come with other weights in other runs: busy ones, those that go on to the last hour, texts. */
    private int kindFor(int run) {
        if (run % 4 == 1 && random(40) < 39) {
            return 4;
        }
        if (run % 4 == 2 && random(10) < 7) {
            int[] busy = {0, 2, 2, 2, 3, 3, 3, 4, 4, 5, 5, 6, 7, 8};
            return busy[random(busy.length)];
        }
        if (run % 4 == 3 && random(10) < 4) {
            return random(8) == 0 ? 14 : 13;
        }
        return random(ACTIONS);
    }

    private int writeAndCarryOut(Both both) {
        if (random(4) > 0) {
            StringBuilder orders = new StringBuilder();
            int many = 1 + random(8);
            for (int i = 0; i < many; i++) {
                orders.append(i == 0 ? "" : ";").append(order());
            }
            if (random(4) == 0) {
                orders.setCharAt(random(orders.length()), SIGNS.charAt(random(SIGNS.length())));
            }
            if (random(8) == 0) {
                orders.setLength(random(orders.length() + 1));
            }
            if (random(4) > 0) {
                both.on(RibbedLoans::clearText, Model::clearText);
            }
            for (int i = 0; i < orders.length(); i++) {
                char sign = orders.charAt(i);
                both.on(x -> x.append(sign), x -> x.append(sign));
            }
        }
        return both.on(RibbedLoans::carryOut, Model::carryOut);
    }

    private String order() {
        int person = random(8) == 0 ? random(100) : random(12);
        int stand = random(8) == 0 ? random(20) : random(3);
        switch (random(6)) {
            case 0: case 1: return "b" + person + "@" + stand;
            case 2: case 3: return "r" + person + "@" + stand;
            case 4: return "h" + random(random(8) == 0 ? 12 : 10) + "," + random(random(8) == 0 ? 5 : 4);
            default: return "l";
        }
    }

    private void compareLooks(int run, int call) {
        String at = "run " + run + " call " + call + ": ";
        for (int what = -1; what <= 18; what++) {
            CHECK.due(at + "count " + what, real.count(what), model.count(what));
        }
        for (int u = -1; u <= model.count(1); u++) {
            for (int what = -1; what <= 5; what++) {
                CHECK.due(at + "umbrella " + u + ", " + what, real.umbrella(u, what), model.umbrella(u, what));
            }
        }
        for (int stand = -1; stand <= 8; stand++) {
            for (int what = -1; what <= 6; what++) {
                CHECK.due(at + "stand " + stand + ", " + what, real.stand(stand, what), model.stand(stand, what));
            }
        }
        for (int person = -1; person <= 12; person++) {
            for (int what = -1; what <= 6; what++) {
                CHECK.due(at + "person " + person + ", " + what, real.person(person, what), model.person(person, what));
            }
        }
        for (int van = -1; van <= 2; van++) {
            for (int place = -1; place <= 11; place++) {
                CHECK.due(at + "inVan " + van + ", " + place, real.inVan(van, place), model.inVan(van, place));
            }
        }
        CHECK.due(at + "emptied", real.emptied(), model.emptied());
        CHECK.due(at + "shortest 0", real.shortest(0), model.shortest(0));
        CHECK.due(at + "shortest 1", real.shortest(1), model.shortest(1));
        accountsAddUp(at);
    }

    private void accountsAddUp(String at) {
        int placed = 0;
        for (int what = 2; what <= 6; what++) {
            placed += real.count(what);
        }
        CHECK.due(at + "umbrellas add up", placed, real.count(1));
        CHECK.due(at + "coins add up", real.count(8) + real.count(9) + real.count(10), 580);
    }
}
