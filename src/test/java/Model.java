import java.util.ArrayDeque;
import java.util.ArrayList;
import java.util.Comparator;
import java.util.Deque;
import java.util.List;
import java.util.regex.Matcher;
import java.util.regex.Pattern;

/** The document once more, told as plainly as can be and in another way than the class, to compare with. */
final class Model {
    private static final int INVALID = -1;
    private static final int ILLEGAL = -2;
    private static final int CAPACITY = -3;
    private static final int NONE = -9;
    private static final String NUMBER = "(?:0|[1-9][0-9]?)";
    private static final String ORDER = "(?:[br]" + NUMBER + "@" + NUMBER + "|h" + NUMBER + "," + NUMBER + "|l)";
    private static final Pattern TEXT = Pattern.compile(ORDER + "(?:;" + ORDER + ")*");

    private enum Place { STAND, HAND, VAN, WORKSHOP, SCRAPPED }

    private static final class Umbrella {
        final int number;
        Place place = Place.STAND;
        int whose;
        double wear;
        int lent;

        Umbrella(int number, int stand) {
            this.number = number;
            this.whose = stand;
        }

        Umbrella copy() {
            Umbrella u = new Umbrella(number, whose);
            u.place = place;
            u.wear = wear;
            u.lent = lent;
            return u;
        }

        boolean broken() {
            return wear >= 4;
        }

        boolean in(Place where, int owner) {
            return place == where && whose == owner;
        }
    }

    private static final class Person {
        int coins = 40;
        int showers;
        boolean broke;
        int home;
        int fees;

        Person copy() {
            Person p = new Person();
            p.coins = coins;
            p.showers = showers;
            p.broke = broke;
            p.home = home;
            p.fees = fees;
            return p;
        }
    }

    private static final class City {
        final List<Umbrella> umbrellas = new ArrayList<>();
        final List<Person> persons = new ArrayList<>();
        final int[] rooms = {8, 8, 8, 8, 8, 8, 8, 8};
        int hour;
        int house = 100;
        int spent;
        int fees;
        int loans;
        int surges;
        int rate = 1;

        static City fresh() {
            City c = new City();
            for (int p = 0; p < 12; p++) {
                Person person = new Person();
                person.home = p % 8;
                c.persons.add(person);
            }
            return c;
        }

        City copy() {
            City c = new City();
            umbrellas.forEach(u -> c.umbrellas.add(u.copy()));
            persons.forEach(p -> c.persons.add(p.copy()));
            System.arraycopy(rooms, 0, c.rooms, 0, 8);
            c.hour = hour;
            c.house = house;
            c.spent = spent;
            c.fees = fees;
            c.loans = loans;
            c.surges = surges;
            c.rate = rate;
            return c;
        }

        List<Umbrella> at(Place place, int whose) {
            List<Umbrella> found = new ArrayList<>();
            for (Umbrella u : umbrellas) {
                if (u.in(place, whose)) {
                    found.add(u);
                }
            }
            return found;
        }

        long in(Place place) {
            return umbrellas.stream().filter(u -> u.place == place).count();
        }

        Umbrella best(int stand) {
            return at(Place.STAND, stand).stream().filter(u -> !u.broken())
                .min(Comparator.comparingDouble((Umbrella u) -> u.wear).thenComparingInt(u -> u.number)).orElse(null);
        }

        Umbrella worst(int stand) {
            return at(Place.STAND, stand).stream()
                .min(Comparator.comparingDouble((Umbrella u) -> -u.wear).thenComparingInt(u -> u.number)).orElse(null);
        }

        Umbrella inHand(int person) {
            List<Umbrella> held = at(Place.HAND, person);
            return held.isEmpty() ? null : held.get(0);
        }

        int room(int stand) {
            return rooms[stand] - at(Place.STAND, stand).size();
        }

        long canSpend() {
            return house - 10 * in(Place.HAND);
        }
    }

    private static final class Whole {
        City city;
        final City[] slots = new City[2];

        Whole copy() {
            Whole w = new Whole();
            w.city = city.copy();
            for (int i = 0; i < 2; i++) {
                w.slots[i] = slots[i] == null ? null : slots[i].copy();
            }
            return w;
        }
    }

    private Whole now = new Whole();
    private final Deque<Whole> history = new ArrayDeque<>();
    private final StringBuilder text = new StringBuilder();

    Model() {
        now.city = City.fresh();
    }

    private static boolean in(int value, int least, int most) {
        return least <= value && value <= most;
    }

    private void record(Whole before) {
        history.addLast(before);
        if (history.size() > 5) {
            history.removeFirst();
        }
    }

    /** Keeps the state before if the answer is a success. */
    private int action(java.util.function.IntSupplier call) {
        Whole before = now.copy();
        int answer = call.getAsInt();
        if (answer >= 0) {
            record(before);
        }
        return answer;
    }

    int buy(int stand, int many) {
        return action(() -> {
            City c = now.city;
            if (!in(stand, 0, 7) || !in(many, 1, 20)) {
                return INVALID;
            }
            if (c.canSpend() < 5 * many) {
                return ILLEGAL;
            }
            if (c.umbrellas.size() + many > 60 || c.room(stand) < many) {
                return CAPACITY;
            }
            int first = c.umbrellas.size();
            for (int i = 0; i < many; i++) {
                c.umbrellas.add(new Umbrella(first + i, stand));
                c.house -= 5;
                c.spent += 5;
            }
            return first;
        });
    }

    int set(int what, int value) {
        return action(() -> {
            City c = now.city;
            if (!in(what, 0, 8) || !(what == 8 ? in(value, 0, 5) : in(value, 1, 20))) {
                return INVALID;
            }
            int previous = what == 8 ? c.rate : c.rooms[what];
            if (what == 8) {
                c.rate = value;
                return previous;
            }
            if (c.at(Place.STAND, what).size() > value) {
                return ILLEGAL;
            }
            c.rooms[what] = value;
            return previous;
        });
    }

    int borrow(int person, int stand) {
        return action(() -> borrowIn(now.city, person, stand));
    }

    private static int borrowIn(City c, int person, int stand) {
        if (!in(person, 0, 11) || !in(stand, 0, 7)) {
            return INVALID;
        }
        Person p = c.persons.get(person);
        Umbrella u = c.best(stand);
        if (c.inHand(person) != null || p.coins < 10 || u == null) {
            return ILLEGAL;
        }
        p.coins -= 10;
        c.house += 10;
        p.showers = 0;
        p.broke = false;
        u.place = Place.HAND;
        u.whose = person;
        u.lent++;
        c.loans++;
        return u.number;
    }

    int bringBack(int person, int stand) {
        return action(() -> bringBackIn(now.city, person, stand, false));
    }

    private static int bringBackIn(City c, int person, int stand, boolean whateverRoom) {
        if (!in(person, 0, 11) || !in(stand, 0, 7)) {
            return INVALID;
        }
        Umbrella u = c.inHand(person);
        if (u == null) {
            return ILLEGAL;
        }
        if (c.room(stand) < 1 && !whateverRoom) {
            return CAPACITY;
        }
        Person p = c.persons.get(person);
        int fee = c.rate * p.showers;
        if (p.broke) {
            fee += 4;
        }
        fee = Math.min(fee, 10);
        p.coins += 10;
        c.house -= 10;
        p.coins -= fee;
        c.house += fee;
        c.fees += fee;
        p.fees += fee;
        p.home = stand;
        p.showers = 0;
        p.broke = false;
        u.place = Place.STAND;
        u.whose = stand;
        return fee;
    }

    int hour(int rain, int gusts) {
        return action(() -> hourIn(now.city, rain, gusts, false));
    }

    private static int hourIn(City c, int rain, int gusts, boolean beyond) {
        if (!in(rain, 0, 9) || !in(gusts, 0, 3)) {
            return INVALID;
        }
        if (c.hour == 500 && !beyond) {
            return CAPACITY;
        }
        c.hour++;
        int broke = 0;
        for (int person = 0; person < 12; person++) {
            Umbrella u = c.inHand(person);
            if (u == null) {
                continue;
            }
            Person p = c.persons.get(person);
            if (rain >= 2) {
                p.showers++;
            }
            boolean whole = !u.broken();
            double more = rain * 0.125;
            if (u.wear >= 2) {
                more += rain * 0.125;
            }
            more += 0.25 * gusts;
            u.wear = Math.min(8, u.wear + more);
            if (whole && u.broken()) {
                broke++;
                p.broke = true;
            }
        }
        if (rain >= 5) {
            c.surges++;
            for (int person = 0; person < 12; person++) {
                borrowIn(c, person, c.persons.get(person).home);
            }
        }
        return broke;
    }

    int load(int van, int stand, int many) {
        return action(() -> {
            City c = now.city;
            if (!in(van, 0, 1) || !in(stand, 0, 7) || !in(many, 1, 10)) {
                return INVALID;
            }
            if (c.at(Place.STAND, stand).size() < many) {
                return ILLEGAL;
            }
            if (c.at(Place.VAN, van).size() + many > 10) {
                return CAPACITY;
            }
            int broken = 0;
            for (int i = 0; i < many; i++) {
                Umbrella u = c.worst(stand);
                broken += u.broken() ? 1 : 0;
                u.place = Place.VAN;
                u.whose = van;
            }
            return broken;
        });
    }

    int unload(int van, int stand, int many) {
        return action(() -> {
            City c = now.city;
            if (!in(van, 0, 1) || !in(stand, 0, 7) || !in(many, 1, 10)) {
                return INVALID;
            }
            List<Umbrella> whole = c.at(Place.VAN, van);
            whole.removeIf(Umbrella::broken);
            if (whole.size() < many) {
                return ILLEGAL;
            }
            if (c.room(stand) < many) {
                return CAPACITY;
            }
            for (Umbrella u : whole.subList(0, many)) {
                u.place = Place.STAND;
                u.whose = stand;
            }
            return c.at(Place.VAN, van).size();
        });
    }

    int toWorkshop(int van) {
        return action(() -> {
            City c = now.city;
            if (!in(van, 0, 1)) {
                return INVALID;
            }
            List<Umbrella> broken = c.at(Place.VAN, van);
            broken.removeIf(u -> !u.broken());
            if (broken.isEmpty()) {
                return ILLEGAL;
            }
            for (Umbrella u : broken) {
                u.place = Place.WORKSHOP;
                u.whose = NONE;
            }
            return broken.size();
        });
    }

    int mend(int stand) {
        return action(() -> {
            City c = now.city;
            if (!in(stand, 0, 7)) {
                return INVALID;
            }
            List<Umbrella> there = c.at(Place.WORKSHOP, NONE);
            if (there.size() < 2 || c.canSpend() < 3) {
                return ILLEGAL;
            }
            if (c.room(stand) < 1) {
                return CAPACITY;
            }
            there.sort(Comparator.comparingDouble((Umbrella u) -> u.wear).thenComparingInt(u -> u.number));
            List<Umbrella> two = new ArrayList<>(there.subList(0, 2));
            double lesser = Math.min(two.get(0).wear, two.get(1).wear);
            two.sort(Comparator.comparingInt(u -> u.number));
            Umbrella mended = two.get(0);
            mended.wear = Math.floor(lesser * 0.25 * 8) / 8;
            mended.place = Place.STAND;
            mended.whose = stand;
            two.get(1).place = Place.SCRAPPED;
            two.get(1).whose = NONE;
            c.house -= 3;
            c.spent += 3;
            return mended.number;
        });
    }

    int level() {
        return action(() -> levelIn(now.city));
    }

    private static int levelIn(City c) {
        int moved = 0;
        while (true) {
            int[] held = new int[8];
            for (int k = 0; k < 8; k++) {
                held[k] = c.at(Place.STAND, k).size();
            }
            boolean uneven = false;
            for (int i = 0; i < 8; i++) {
                for (int j = 0; j < 8; j++) {
                    uneven |= i != j && held[j] < c.rooms[j] && held[i] - held[j] >= 2;
                }
            }
            if (!uneven) {
                return moved;
            }
            int from = -1;
            int to = -1;
            for (int k = 7; k >= 0; k--) {
                from = from < 0 || held[k] >= held[from] ? k : from;
                if (held[k] < c.rooms[k]) {
                    to = to < 0 || held[k] <= held[to] ? k : to;
                }
            }
            Umbrella u = c.best(from);
            if (u == null) {
                return moved;
            }
            u.whose = to;
            moved++;
        }
    }

    int take(int slot) {
        return action(() -> {
            if (!in(slot, 0, 1)) {
                return INVALID;
            }
            now.slots[slot] = now.city.copy();
            return now.city.hour;
        });
    }

    int restore(int slot) {
        return action(() -> {
            if (!in(slot, 0, 1)) {
                return INVALID;
            }
            if (now.slots[slot] == null) {
                return ILLEGAL;
            }
            now.city = now.slots[slot].copy();
            return now.city.hour;
        });
    }

    int undo() {
        if (history.isEmpty()) {
            return ILLEGAL;
        }
        now = history.removeLast();
        return history.size();
    }

    int append(int character) {
        if (!in(character, 1, 255)) {
            return INVALID;
        }
        if (text.length() == 80) {
            return CAPACITY;
        }
        text.append((char) character);
        return text.length();
    }

    int clearText() {
        int previous = text.length();
        text.setLength(0);
        return previous;
    }

    /** The longest beginning that some text of orders has, too; or NONE if the text is one. */
    private int fault() {
        if (TEXT.matcher(text).matches()) {
            return NONE;
        }
        for (int length = text.length(); length > 0; length--) {
            Matcher beginning = TEXT.matcher(text.substring(0, length));
            if (beginning.matches() || beginning.hitEnd()) {
                return length;
            }
        }
        return 0;
    }

    int carryOut() {
        int fault = fault();
        if (fault != NONE) {
            return -1000 - fault;
        }
        return action(() -> {
            int done = 0;
            for (String order : text.toString().split(";")) {
                if (obey(order) < 0) {
                    break;
                }
                done++;
            }
            text.setLength(0);
            return done;
        });
    }

    private int obey(String order) {
        if (order.equals("l")) {
            return levelIn(now.city);
        }
        String[] numbers = order.substring(1).split("[@,]");
        int first = Integer.parseInt(numbers[0]);
        int second = Integer.parseInt(numbers[1]);
        if (order.startsWith("b")) {
            return borrowIn(now.city, first, second);
        }
        if (order.startsWith("r")) {
            return bringBackIn(now.city, first, second, false);
        }
        return hourIn(now.city, first, second, false);
    }

    int count(int what) {
        City c = now.city;
        if (!in(what, 0, 17)) {
            return INVALID;
        }
        int coins = 0;
        for (Person p : c.persons) {
            coins += p.coins;
        }
        int broken = 0;
        for (Umbrella u : c.umbrellas) {
            broken += u.broken() && u.place != Place.SCRAPPED ? 1 : 0;
        }
        int snapshots = (now.slots[0] != null ? 1 : 0) + (now.slots[1] != null ? 1 : 0);
        long[] counts = {c.hour, c.umbrellas.size(), c.in(Place.STAND), c.in(Place.HAND), c.in(Place.VAN),
            c.in(Place.WORKSHOP), c.in(Place.SCRAPPED), broken, c.house, coins, c.spent, c.fees, c.loans, c.surges,
            c.rate, snapshots, history.size(), text.length()};
        return (int) counts[what];
    }

    int umbrella(int umbrella, int what) {
        if (!in(umbrella, 0, now.city.umbrellas.size() - 1) || !in(what, 0, 4)) {
            return INVALID;
        }
        Umbrella u = now.city.umbrellas.get(umbrella);
        int[] told = {u.place.ordinal(), u.whose, (int) (u.wear * 8), u.broken() ? 1 : 0, u.lent};
        return told[what];
    }

    int stand(int stand, int what) {
        if (!in(stand, 0, 7) || !in(what, 0, 5)) {
            return INVALID;
        }
        City c = now.city;
        List<Umbrella> there = c.at(Place.STAND, stand);
        int broken = 0;
        double sum = 0;
        for (Umbrella u : there) {
            broken += u.broken() ? 1 : 0;
            sum += u.wear;
        }
        // The sum is a multiple of one eighth, so that the quotient is cut exactly.
        int mean = there.isEmpty() ? 0 : (int) ((long) (sum * 8) * 100 / (8L * there.size()));
        Umbrella best = c.best(stand);
        Umbrella worst = c.worst(stand);
        int[] told = {c.rooms[stand], there.size(), broken, best == null ? NONE : best.number,
            worst == null ? NONE : worst.number, mean};
        return told[what];
    }

    int person(int person, int what) {
        if (!in(person, 0, 11) || !in(what, 0, 5)) {
            return INVALID;
        }
        Person p = now.city.persons.get(person);
        Umbrella u = now.city.inHand(person);
        int[] told = {p.coins, u == null ? NONE : u.number, p.showers, p.broke ? 1 : 0, p.home, p.fees};
        return told[what];
    }

    int inVan(int van, int place) {
        if (!in(van, 0, 1) || place < 0) {
            return INVALID;
        }
        List<Umbrella> there = now.city.at(Place.VAN, van);
        return place < there.size() ? there.get(place).number : NONE;
    }

    int feeIn(int person, int hours, int rain) {
        if (!in(person, 0, 11) || !in(hours, 0, 50) || !in(rain, 0, 9)) {
            return INVALID;
        }
        if (now.city.inHand(person) == null) {
            return ILLEGAL;
        }
        City later = now.city.copy();
        for (int i = 0; i < hours; i++) {
            hourIn(later, rain, 0, true);
        }
        return bringBackIn(later, person, 0, true);
    }

    int breaksIn(int person, int rain, int gusts) {
        if (!in(person, 0, 11) || !in(rain, 0, 9) || !in(gusts, 0, 3)) {
            return INVALID;
        }
        if (now.city.inHand(person) == null) {
            return ILLEGAL;
        }
        City later = now.city.copy();
        for (int hours = 0; hours <= 100; hours++) {
            if (later.inHand(person).broken()) {
                return hours;
            }
            hourIn(later, rain, gusts, true);
        }
        return NONE;
    }

    int emptied() {
        City later = now.city.copy();
        hourIn(later, 5, 0, true);
        int set = 0;
        for (int stand = 0; stand < 8; stand++) {
            if (later.best(stand) == null) {
                set += 1 << stand;
            }
        }
        return set;
    }

    int shortest(int what) {
        if (!in(what, 0, 1)) {
            return INVALID;
        }
        int found = NONE;
        int fewest = NONE;
        for (int stand = 0; stand < 8; stand++) {
            int more = 0;
            while (!suffices(stand, more)) {
                more++;
            }
            if (more > 0 && (found == NONE || more < fewest)) {
                found = stand;
                fewest = more;
            }
        }
        return what == 0 ? found : fewest;
    }

    /** Whether nobody goes without one at a surge, if so many more are brought to the stand. */
    private boolean suffices(int stand, int more) {
        City later = now.city.copy();
        for (int i = 0; i < more; i++) {
            later.umbrellas.add(new Umbrella(1000 + i, stand));
        }
        hourIn(later, 5, 0, true);
        for (int person = 0; person < 12; person++) {
            Person p = later.persons.get(person);
            if (p.home == stand && p.coins >= 10 && later.inHand(person) == null) {
                return false;
            }
        }
        return true;
    }
}
