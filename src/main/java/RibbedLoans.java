import java.util.Arrays;

/** Umbrella stands across a city; README.md says how to use it. */
public final class RibbedLoans {
    public static final int INVALID_ARGUMENT = -1;
    public static final int ILLEGAL_STATE = -2;
    public static final int CAPACITY_EXCEEDED = -3;
    public static final int NONE = -9;

    /** What a check answers if no error condition applies. */
    private static final int FINE = 0;

    private static final int STANDS = 8;
    private static final int PERSONS = 12;
    private static final int VANS = 2;
    private static final int SLOTS = 2;
    private static final int MOST_UMBRELLAS = 60;
    private static final int MOST_ROOM = 20;
    private static final int VAN_ROOM = 10;
    private static final int MOST_RATE = 5;
    private static final int MOST_STATES = 5;
    private static final int MOST_CHARACTERS = 80;
    private static final int MOST_BOUGHT = 20;

    private static final int START_ROOM = 8;
    private static final int START_PURSE = 40;
    private static final int START_HOUSE = 100;
    private static final int START_RATE = 1;

    private static final int LAST_HOUR = 500;
    private static final int MOST_RAIN = 9;
    private static final int MOST_GUSTS = 3;
    private static final int SHOWER_RAIN = 2;
    private static final int SURGE_RAIN = 5;
    private static final int MOST_FEE_HOURS = 50;
    private static final int MOST_BREAK_HOURS = 100;

    private static final int DEPOSIT = 10;
    private static final int BREAKING_FEE = 4;
    private static final int PRICE = 5;
    private static final int MENDING_COST = 3;

    // Wear is counted in eighths, so that it stays whole.
    private static final int EIGHTHS = 8;
    private static final int OLD_WEAR = 2 * EIGHTHS;
    private static final int BROKEN_WEAR = 4 * EIGHTHS;
    private static final int MOST_WEAR = 8 * EIGHTHS;
    private static final int GUST_WEAR = 2;

    // A spot tells the place of an umbrella and whose it is, in one number: 0 to 7 are the stands.
    private static final int FIRST_HAND = STANDS;
    private static final int FIRST_VAN = FIRST_HAND + PERSONS;
    private static final int WORKSHOP = FIRST_VAN + VANS;
    private static final int SCRAPPED = WORKSHOP + 1;

    private static final int IN_STAND = 0;
    private static final int IN_HAND = 1;
    private static final int IN_VAN = 2;
    private static final int IN_WORKSHOP = 3;
    private static final int IN_SCRAP = 4;

    /** What an answer to a text with a fault starts from. */
    private static final int FAULTY = -1000;

    /** Far more than levelling can move: each move makes the stands' numbers more alike. */
    private static final int MOST_MOVES = 1000000;

    private final State now;
    private final History history;
    private final Text text;

    public RibbedLoans() {
        now = new State();
        history = new History();
        text = new Text();
    }

    // ---- umbrellas and loans

    public int buy(int stand, int many) {
        int error = now.city.buyingError(stand, many);
        if (error != FINE) {
            return error;
        }
        history.record(now);
        return now.city.purchase(stand, many);
    }

    public int set(int what, int value) {
        int error = now.city.settingError(what, value);
        if (error != FINE) {
            return error;
        }
        history.record(now);
        return now.city.change(what, value);
    }

    public int borrow(int person, int stand) {
        int error = now.city.lendingError(person, stand);
        if (error != FINE) {
            return error;
        }
        history.record(now);
        return now.city.lend(person, stand);
    }

    public int bringBack(int person, int stand) {
        int error = now.city.returningError(person, stand);
        if (error != FINE) {
            return error;
        }
        history.record(now);
        return now.city.takeBack(person, stand);
    }

    public int hour(int rain, int gusts) {
        int error = now.city.passingError(rain, gusts);
        if (error != FINE) {
            return error;
        }
        history.record(now);
        return now.city.passHour(rain, gusts);
    }

    // ---- vans and workshop

    public int load(int van, int stand, int many) {
        int error = now.city.loadingError(van, stand, many);
        if (error != FINE) {
            return error;
        }
        history.record(now);
        return now.city.fillVan(van, stand, many);
    }

    public int unload(int van, int stand, int many) {
        int error = now.city.unloadingError(van, stand, many);
        if (error != FINE) {
            return error;
        }
        history.record(now);
        return now.city.emptyVan(van, stand, many);
    }

    public int toWorkshop(int van) {
        int error = now.city.deliveringError(van);
        if (error != FINE) {
            return error;
        }
        history.record(now);
        return now.city.deliver(van);
    }

    public int mend(int stand) {
        int error = now.city.mendingError(stand);
        if (error != FINE) {
            return error;
        }
        history.record(now);
        return now.city.mendOne(stand);
    }

    public int level() {
        history.record(now);
        return now.city.evenOut();
    }

    // ---- snapshots

    public int take(int slot) {
        if (outside(slot, 0, SLOTS - 1)) {
            return INVALID_ARGUMENT;
        }
        history.record(now);
        now.keep(slot);
        return now.city.hours;
    }

    public int restore(int slot) {
        if (outside(slot, 0, SLOTS - 1)) {
            return INVALID_ARGUMENT;
        }
        if (!now.isKept(slot)) {
            return ILLEGAL_STATE;
        }
        history.record(now);
        now.bringUp(slot);
        return now.city.hours;
    }

    public int undo() {
        if (history.size == 0) {
            return ILLEGAL_STATE;
        }
        history.moveLatestTo(now);
        return history.size;
    }

    // ---- text

    public int append(int character) {
        if (outside(character, 1, 255)) {
            return INVALID_ARGUMENT;
        }
        if (text.length >= MOST_CHARACTERS) {
            return CAPACITY_EXCEEDED;
        }
        text.add(character);
        return text.length;
    }

    public int clearText() {
        int previous = text.length;
        text.length = 0;
        return previous;
    }

    public int carryOut() {
        int fault = text.fault();
        if (fault != NONE) {
            return FAULTY - fault;
        }
        history.record(now);
        int done = 0;
        text.rewind();
        // Every order takes a character at least.
        while (done <= MOST_CHARACTERS && text.readOrder() && obey() >= 0) {
            done++;
            if (!text.accept(';')) {
                break;
            }
        }
        text.length = 0;
        return done;
    }

    /** Carries out the order that was read last. */
    private int obey() {
        City city = now.city;
        int first = text.first;
        int second = text.second;
        int error;
        switch (text.verb) {
            case 'b':
                error = city.lendingError(first, second);
                return error != FINE ? error : city.lend(first, second);
            case 'r':
                error = city.returningError(first, second);
                return error != FINE ? error : city.takeBack(first, second);
            case 'h':
                error = city.passingError(first, second);
                return error != FINE ? error : city.passHour(first, second);
            case 'l':
                return city.evenOut();
            default:
                return INVALID_ARGUMENT;
        }
    }

    // ---- looking

    public int count(int what) {
        City city = now.city;
        Umbrellas all = city.umbrellas;
        switch (what) {
            case 0: return city.hours;
            case 1: return all.number;
            case 2: return all.numberOfKind(IN_STAND);
            case 3: return all.numberOfKind(IN_HAND);
            case 4: return all.numberOfKind(IN_VAN);
            case 5: return all.numberOfKind(IN_WORKSHOP);
            case 6: return all.numberOfKind(IN_SCRAP);
            case 7: return all.numberBroken();
            case 8: return city.house;
            case 9: return city.purses.sum();
            case 10: return city.spent;
            case 11: return city.paid.sum();
            case 12: return city.loans;
            case 13: return city.surges;
            case 14: return city.rate;
            case 15: return now.numberKept();
            case 16: return history.size;
            case 17: return text.length;
            default: return INVALID_ARGUMENT;
        }
    }

    public int umbrella(int umbrella, int what) {
        Umbrellas all = now.city.umbrellas;
        if (outside(umbrella, 0, all.number - 1)) {
            return INVALID_ARGUMENT;
        }
        int spot = all.spots.at(umbrella);
        switch (what) {
            case 0: return kindOf(spot);
            case 1: return ownerOf(spot);
            case 2: return all.wears.at(umbrella);
            case 3: return all.isBroken(umbrella) ? 1 : 0;
            case 4: return all.lendings.at(umbrella);
            default: return INVALID_ARGUMENT;
        }
    }

    public int stand(int stand, int what) {
        if (outside(stand, 0, STANDS - 1)) {
            return INVALID_ARGUMENT;
        }
        Umbrellas all = now.city.umbrellas;
        switch (what) {
            case 0: return now.city.rooms.at(stand);
            case 1: return all.numberAt(stand);
            case 2: return all.brokenAt(stand);
            case 3: return all.bestAt(stand);
            case 4: return all.worstAt(stand);
            case 5: return all.meanWearAt(stand);
            default: return INVALID_ARGUMENT;
        }
    }

    public int person(int person, int what) {
        if (outside(person, 0, PERSONS - 1)) {
            return INVALID_ARGUMENT;
        }
        City city = now.city;
        int umbrella = city.inHand(person);
        switch (what) {
            case 0: return city.purses.at(person);
            case 1: return umbrella;
            case 2: return city.showers.at(person);
            // Only a whole one is lent, so one that is broken in hand broke during the loan.
            case 3: return umbrella != NONE && city.umbrellas.isBroken(umbrella) ? 1 : 0;
            case 4: return city.homes.at(person);
            case 5: return city.paid.at(person);
            default: return INVALID_ARGUMENT;
        }
    }

    public int inVan(int van, int place) {
        if (outside(van, 0, VANS - 1) || place < 0) {
            return INVALID_ARGUMENT;
        }
        return now.city.umbrellas.nthAt(FIRST_VAN + van, place);
    }

    // ---- what could be, which changes nothing

    public int feeIn(int person, int hours, int rain) {
        if (outside(person, 0, PERSONS - 1) || outside(hours, 0, MOST_FEE_HOURS) || outside(rain, 0, MOST_RAIN)) {
            return INVALID_ARGUMENT;
        }
        if (!now.city.hasOne(person)) {
            return ILLEGAL_STATE;
        }
        return now.city.feeAfter(person, hours, rain);
    }

    public int breaksIn(int person, int rain, int gusts) {
        if (outside(person, 0, PERSONS - 1) || outside(rain, 0, MOST_RAIN) || outside(gusts, 0, MOST_GUSTS)) {
            return INVALID_ARGUMENT;
        }
        if (!now.city.hasOne(person)) {
            return ILLEGAL_STATE;
        }
        return now.city.hoursToBreak(person, rain, gusts);
    }

    public int emptied() {
        int set = 0;
        for (int stand = 0; stand < STANDS; stand++) {
            if (now.city.lackAt(stand) >= 0) {
                set |= 1 << stand;
            }
        }
        return set;
    }

    public int shortest(int what) {
        if (outside(what, 0, 1)) {
            return INVALID_ARGUMENT;
        }
        int found = NONE;
        int fewest = NONE;
        for (int stand = 0; stand < STANDS; stand++) {
            int lack = now.city.lackAt(stand);
            if (lack > 0 && (found == NONE || lack < fewest)) {
                found = stand;
                fewest = lack;
            }
        }
        return what == 0 ? found : fewest;
    }

    // ---- numbers

    private static boolean outside(int value, int least, int most) {
        return value < least || value > most;
    }

    private static int kindOf(int spot) {
        if (spot < FIRST_HAND) {
            return IN_STAND;
        }
        if (spot < FIRST_VAN) {
            return IN_HAND;
        }
        if (spot < WORKSHOP) {
            return IN_VAN;
        }
        return spot == WORKSHOP ? IN_WORKSHOP : IN_SCRAP;
    }

    /** Which stand, person or van it is. */
    private static int ownerOf(int spot) {
        switch (kindOf(spot)) {
            case IN_STAND: return spot;
            case IN_HAND: return spot - FIRST_HAND;
            case IN_VAN: return spot - FIRST_VAN;
            default: return NONE;
        }
    }

    /** The wear behind an hour in a hand. */
    private static int wornBy(int wear, int rain, int gusts) {
        int soaked = wear < OLD_WEAR ? rain : 2 * rain;
        return Math.min(MOST_WEAR, wear + soaked + GUST_WEAR * gusts);
    }

    /** A row of numbers; beyond its ends it reads 0 and keeps nothing, so no index can throw. */
    private static final class Row {
        private final int[] cells;

        Row(int length, int value) {
            cells = new int[Math.max(0, length)];
            Arrays.fill(cells, value);
        }

        int at(int index) {
            return index >= 0 && index < cells.length ? cells[index] : 0;
        }

        void put(int index, int value) {
            if (index >= 0 && index < cells.length) {
                cells[index] = value;
            }
        }

        void add(int index, int more) {
            if (index >= 0 && index < cells.length) {
                cells[index] += more;
            }
        }

        int sum() {
            int sum = 0;
            for (int cell : cells) {
                sum += cell;
            }
            return sum;
        }

        void copyFrom(Row other) {
            System.arraycopy(other.cells, 0, cells, 0, Math.min(cells.length, other.cells.length));
        }
    }

    /** The umbrellas by their numbers: where each is, its wear, how often it was lent. */
    private static final class Umbrellas {
        private final Row spots = new Row(MOST_UMBRELLAS, 0);
        private final Row wears = new Row(MOST_UMBRELLAS, 0);
        private final Row lendings = new Row(MOST_UMBRELLAS, 0);
        /** By spots: how many are there. Levelling asks for it so often that counting anew would be slow. */
        private final Row tally = new Row(SCRAPPED + 1, 0);
        private int number;

        void copyFrom(Umbrellas other) {
            spots.copyFrom(other.spots);
            wears.copyFrom(other.wears);
            lendings.copyFrom(other.lendings);
            tally.copyFrom(other.tally);
            number = other.number;
        }

        void addNew(int stand) {
            spots.put(number, stand);
            tally.add(stand, 1);
            number++;
        }

        void move(int umbrella, int spot) {
            tally.add(spots.at(umbrella), -1);
            spots.put(umbrella, spot);
            tally.add(spot, 1);
        }

        boolean isBroken(int umbrella) {
            return wears.at(umbrella) >= BROKEN_WEAR;
        }

        int numberAt(int spot) {
            return tally.at(spot);
        }

        int numberOfKind(int kind) {
            int many = 0;
            for (int spot = 0; spot <= SCRAPPED; spot++) {
                if (kindOf(spot) == kind) {
                    many += numberAt(spot);
                }
            }
            return many;
        }

        int numberBroken() {
            int many = 0;
            for (int u = 0; u < number; u++) {
                if (isBroken(u) && spots.at(u) != SCRAPPED) {
                    many++;
                }
            }
            return many;
        }

        int brokenAt(int spot) {
            int many = 0;
            for (int u = 0; u < number; u++) {
                if (spots.at(u) == spot && isBroken(u)) {
                    many++;
                }
            }
            return many;
        }

        int wholeAt(int spot) {
            return numberAt(spot) - brokenAt(spot);
        }

        /** The umbrella that has so many with smaller numbers beside it, or NONE. */
        int nthAt(int spot, int place) {
            int before = 0;
            for (int u = 0; u < number; u++) {
                if (spots.at(u) == spot) {
                    if (before == place) {
                        return u;
                    }
                    before++;
                }
            }
            return NONE;
        }

        /** The one with the least wear up to a bound, but for one that is told; or NONE. */
        int leastWornAt(int spot, int mostWear, int besides) {
            int found = NONE;
            for (int u = 0; u < number; u++) {
                boolean fits = spots.at(u) == spot && wears.at(u) <= mostWear && u != besides;
                if (fits && (found == NONE || wears.at(u) < wears.at(found))) {
                    found = u;
                }
            }
            return found;
        }

        int bestAt(int stand) {
            return leastWornAt(stand, BROKEN_WEAR - 1, NONE);
        }

        int worstAt(int stand) {
            int found = NONE;
            for (int u = 0; u < number; u++) {
                if (spots.at(u) == stand && (found == NONE || wears.at(u) > wears.at(found))) {
                    found = u;
                }
            }
            return found;
        }

        int meanWearAt(int stand) {
            int many = numberAt(stand);
            if (many <= 0) {
                return 0;
            }
            int sum = 0;
            for (int u = 0; u < number; u++) {
                if (spots.at(u) == stand) {
                    sum += wears.at(u);
                }
            }
            return 100 * sum / (EIGHTHS * many);
        }
    }

    /** All that a snapshot keeps. Whoever changes something asks for its error first. */
    private static final class City {
        private final Umbrellas umbrellas = new Umbrellas();
        private final Row rooms = new Row(STANDS, START_ROOM);
        private final Row purses = new Row(PERSONS, START_PURSE);
        private final Row showers = new Row(PERSONS, 0);
        private final Row homes = new Row(PERSONS, 0);
        private final Row paid = new Row(PERSONS, 0);
        private int hours;
        private int house = START_HOUSE;
        private int spent;
        private int loans;
        private int surges;
        private int rate = START_RATE;

        City() {
            for (int person = 0; person < PERSONS; person++) {
                homes.put(person, person % STANDS);
            }
        }

        void copyFrom(City other) {
            umbrellas.copyFrom(other.umbrellas);
            rooms.copyFrom(other.rooms);
            purses.copyFrom(other.purses);
            showers.copyFrom(other.showers);
            homes.copyFrom(other.homes);
            paid.copyFrom(other.paid);
            hours = other.hours;
            house = other.house;
            spent = other.spent;
            loans = other.loans;
            surges = other.surges;
            rate = other.rate;
        }

        private int spendable() {
            return house - DEPOSIT * umbrellas.numberOfKind(IN_HAND);
        }

        private void spend(int coins) {
            house -= coins;
            spent += coins;
        }

        private int freeAt(int stand) {
            return rooms.at(stand) - umbrellas.numberAt(stand);
        }

        boolean hasOne(int person) {
            return umbrellas.numberAt(FIRST_HAND + person) > 0;
        }

        /** The umbrella in the hand of a person, or NONE. */
        int inHand(int person) {
            return umbrellas.nthAt(FIRST_HAND + person, 0);
        }

        // -- umbrellas and loans

        int buyingError(int stand, int many) {
            if (outside(stand, 0, STANDS - 1) || outside(many, 1, MOST_BOUGHT)) {
                return INVALID_ARGUMENT;
            }
            if (spendable() < PRICE * many) {
                return ILLEGAL_STATE;
            }
            boolean fits = many <= MOST_UMBRELLAS - umbrellas.number && many <= freeAt(stand);
            return fits ? FINE : CAPACITY_EXCEEDED;
        }

        int purchase(int stand, int many) {
            int firstOne = umbrellas.number;
            for (int i = 0; i < many; i++) {
                umbrellas.addNew(stand);
            }
            spend(PRICE * many);
            return firstOne;
        }

        int settingError(int what, int value) {
            if (what == STANDS) {
                return outside(value, 0, MOST_RATE) ? INVALID_ARGUMENT : FINE;
            }
            if (outside(what, 0, STANDS - 1) || outside(value, 1, MOST_ROOM)) {
                return INVALID_ARGUMENT;
            }
            return umbrellas.numberAt(what) > value ? ILLEGAL_STATE : FINE;
        }

        int change(int what, int value) {
            int previous;
            if (what == STANDS) {
                previous = rate;
                rate = value;
            } else {
                previous = rooms.at(what);
                rooms.put(what, value);
            }
            return previous;
        }

        int lendingError(int person, int stand) {
            if (outside(person, 0, PERSONS - 1) || outside(stand, 0, STANDS - 1)) {
                return INVALID_ARGUMENT;
            }
            boolean possible = wouldBorrow(person) && umbrellas.bestAt(stand) != NONE;
            return possible ? FINE : ILLEGAL_STATE;
        }

        private boolean wouldBorrow(int person) {
            return purses.at(person) >= DEPOSIT && umbrellas.numberAt(FIRST_HAND + person) == 0;
        }

        int lend(int person, int stand) {
            int umbrella = umbrellas.bestAt(stand);
            handOut(person, umbrella);
            return umbrella;
        }

        private void handOut(int person, int umbrella) {
            umbrellas.move(umbrella, FIRST_HAND + person);
            umbrellas.lendings.add(umbrella, 1);
            purses.add(person, -DEPOSIT);
            house += DEPOSIT;
            loans++;
        }

        int returningError(int person, int stand) {
            if (outside(person, 0, PERSONS - 1) || outside(stand, 0, STANDS - 1)) {
                return INVALID_ARGUMENT;
            }
            if (!hasOne(person)) {
                return ILLEGAL_STATE;
            }
            return freeAt(stand) <= 0 ? CAPACITY_EXCEEDED : FINE;
        }

        int takeBack(int person, int stand) {
            int fee = feeAfter(person, 0, 0);
            umbrellas.move(inHand(person), stand);
            purses.add(person, DEPOSIT - fee);
            house -= DEPOSIT - fee;
            paid.add(person, fee);
            showers.put(person, 0);
            homes.put(person, stand);
            return fee;
        }

        /** The fee of a person with an umbrella behind some hours of rain. */
        int feeAfter(int person, int hoursOfRain, int rain) {
            int wear = umbrellas.wears.at(inHand(person));
            for (int i = 0; i < hoursOfRain; i++) {
                wear = wornBy(wear, rain, 0);
            }
            int wet = showers.at(person) + (rain >= SHOWER_RAIN ? hoursOfRain : 0);
            int fee = rate * wet + (wear >= BROKEN_WEAR ? BREAKING_FEE : 0);
            return Math.min(DEPOSIT, fee);
        }

        int hoursToBreak(int person, int rain, int gusts) {
            int wear = umbrellas.wears.at(inHand(person));
            for (int past = 0; past <= MOST_BREAK_HOURS; past++) {
                if (wear >= BROKEN_WEAR) {
                    return past;
                }
                wear = wornBy(wear, rain, gusts);
            }
            return NONE;
        }

        // -- an hour

        int passingError(int rain, int gusts) {
            if (outside(rain, 0, MOST_RAIN) || outside(gusts, 0, MOST_GUSTS)) {
                return INVALID_ARGUMENT;
            }
            return hours >= LAST_HOUR ? CAPACITY_EXCEEDED : FINE;
        }

        int passHour(int rain, int gusts) {
            hours++;
            if (rain >= SHOWER_RAIN) {
                countShower();
            }
            int broken = wearDown(rain, gusts);
            if (rain >= SURGE_RAIN) {
                surge();
            }
            return broken;
        }

        private void countShower() {
            for (int person = 0; person < PERSONS; person++) {
                if (hasOne(person)) {
                    showers.add(person, 1);
                }
            }
        }

        /** Answers how many break. */
        private int wearDown(int rain, int gusts) {
            int broken = 0;
            for (int u = 0; u < umbrellas.number; u++) {
                if (kindOf(umbrellas.spots.at(u)) == IN_HAND) {
                    int before = umbrellas.wears.at(u);
                    int after = wornBy(before, rain, gusts);
                    umbrellas.wears.put(u, after);
                    if (before < BROKEN_WEAR && after >= BROKEN_WEAR) {
                        broken++;
                    }
                }
            }
            return broken;
        }

        private void surge() {
            surges++;
            for (int person = 0; person < PERSONS; person++) {
                int umbrella = umbrellas.bestAt(homes.at(person));
                if (umbrella != NONE && wouldBorrow(person)) {
                    handOut(person, umbrella);
                }
            }
        }

        /** How many umbrellas a stand would lack at a surge; negative if some would be left. */
        int lackAt(int stand) {
            int wanted = 0;
            for (int person = 0; person < PERSONS; person++) {
                if (homes.at(person) == stand && wouldBorrow(person)) {
                    wanted++;
                }
            }
            return wanted - umbrellas.wholeAt(stand);
        }

        // -- vans and workshop

        int loadingError(int van, int stand, int many) {
            if (outside(van, 0, VANS - 1) || outside(stand, 0, STANDS - 1) || outside(many, 1, VAN_ROOM)) {
                return INVALID_ARGUMENT;
            }
            if (umbrellas.numberAt(stand) < many) {
                return ILLEGAL_STATE;
            }
            boolean fits = umbrellas.numberAt(FIRST_VAN + van) + many <= VAN_ROOM;
            return fits ? FINE : CAPACITY_EXCEEDED;
        }

        int fillVan(int van, int stand, int many) {
            int broken = 0;
            for (int i = 0; i < many; i++) {
                int umbrella = umbrellas.worstAt(stand);
                umbrellas.move(umbrella, FIRST_VAN + van);
                if (umbrellas.isBroken(umbrella)) {
                    broken++;
                }
            }
            return broken;
        }

        int unloadingError(int van, int stand, int many) {
            if (outside(van, 0, VANS - 1) || outside(stand, 0, STANDS - 1) || outside(many, 1, VAN_ROOM)) {
                return INVALID_ARGUMENT;
            }
            if (umbrellas.wholeAt(FIRST_VAN + van) < many) {
                return ILLEGAL_STATE;
            }
            return freeAt(stand) < many ? CAPACITY_EXCEEDED : FINE;
        }

        int emptyVan(int van, int stand, int many) {
            int moved = 0;
            for (int u = 0; u < umbrellas.number && moved < many; u++) {
                if (umbrellas.spots.at(u) == FIRST_VAN + van && !umbrellas.isBroken(u)) {
                    umbrellas.move(u, stand);
                    moved++;
                }
            }
            return umbrellas.numberAt(FIRST_VAN + van);
        }

        int deliveringError(int van) {
            if (outside(van, 0, VANS - 1)) {
                return INVALID_ARGUMENT;
            }
            return umbrellas.brokenAt(FIRST_VAN + van) == 0 ? ILLEGAL_STATE : FINE;
        }

        int deliver(int van) {
            int moved = 0;
            for (int u = 0; u < umbrellas.number; u++) {
                if (umbrellas.spots.at(u) == FIRST_VAN + van && umbrellas.isBroken(u)) {
                    umbrellas.move(u, WORKSHOP);
                    moved++;
                }
            }
            return moved;
        }

        int mendingError(int stand) {
            if (outside(stand, 0, STANDS - 1)) {
                return INVALID_ARGUMENT;
            }
            if (umbrellas.numberAt(WORKSHOP) < 2 || spendable() < MENDING_COST) {
                return ILLEGAL_STATE;
            }
            return freeAt(stand) <= 0 ? CAPACITY_EXCEEDED : FINE;
        }

        int mendOne(int stand) {
            int least = umbrellas.leastWornAt(WORKSHOP, MOST_WEAR, NONE);
            int next = umbrellas.leastWornAt(WORKSHOP, MOST_WEAR, least);
            int mended = Math.min(least, next);
            umbrellas.wears.put(mended, umbrellas.wears.at(least) / 4);
            umbrellas.move(mended, stand);
            umbrellas.move(Math.max(least, next), SCRAPPED);
            spend(MENDING_COST);
            return mended;
        }

        int evenOut() {
            int moved = 0;
            while (moved < MOST_MOVES) {
                int from = fullest();
                int to = emptiestWithRoom();
                int umbrella = umbrellas.bestAt(from);
                boolean uneven = to != NONE && umbrellas.numberAt(from) - umbrellas.numberAt(to) >= 2;
                if (!uneven || umbrella == NONE) {
                    break;
                }
                umbrellas.move(umbrella, to);
                moved++;
            }
            return moved;
        }

        private int fullest() {
            int found = 0;
            for (int stand = 1; stand < STANDS; stand++) {
                if (umbrellas.numberAt(stand) > umbrellas.numberAt(found)) {
                    found = stand;
                }
            }
            return found;
        }

        private int emptiestWithRoom() {
            int found = NONE;
            for (int stand = 0; stand < STANDS; stand++) {
                boolean emptier = found == NONE || umbrellas.numberAt(stand) < umbrellas.numberAt(found);
                if (freeAt(stand) > 0 && emptier) {
                    found = stand;
                }
            }
            return found;
        }
    }

    /** All that the history keeps: the city and the snapshots of it. */
    private static final class State {
        private final City city = new City();
        private final City snapshot0 = new City();
        private final City snapshot1 = new City();
        private boolean kept0;
        private boolean kept1;

        void copyFrom(State other) {
            city.copyFrom(other.city);
            // An empty slot's snapshot is never read, so it is not worth copying.
            if (other.kept0) {
                snapshot0.copyFrom(other.snapshot0);
            }
            if (other.kept1) {
                snapshot1.copyFrom(other.snapshot1);
            }
            kept0 = other.kept0;
            kept1 = other.kept1;
        }

        private City snapshot(int slot) {
            return slot == 0 ? snapshot0 : snapshot1;
        }

        boolean isKept(int slot) {
            return slot == 0 ? kept0 : kept1;
        }

        int numberKept() {
            return (kept0 ? 1 : 0) + (kept1 ? 1 : 0);
        }

        void keep(int slot) {
            snapshot(slot).copyFrom(city);
            if (slot == 0) {
                kept0 = true;
            } else {
                kept1 = true;
            }
        }

        void bringUp(int slot) {
            city.copyFrom(snapshot(slot));
        }
    }

    /** The latest states, in a ring, so that the oldest one is the one written over. */
    private static final class History {
        private final State[] ring = new State[MOST_STATES];
        private int next;
        private int size;

        History() {
            for (int i = 0; i < ring.length; i++) {
                ring[i] = new State();
            }
        }

        void record(State state) {
            State place = next >= 0 && next < ring.length ? ring[next] : null;
            if (place != null) {
                place.copyFrom(state);
            }
            next = (next + 1) % MOST_STATES;
            size = Math.min(MOST_STATES, size + 1);
        }

        void moveLatestTo(State state) {
            next = (next + MOST_STATES - 1) % MOST_STATES;
            size--;
            State place = next >= 0 && next < ring.length ? ring[next] : null;
            if (place != null) {
                state.copyFrom(place);
            }
        }
    }

    /** The text, and a reader that never goes past a character that is not allowed at its place. */
    private static final class Text {
        private final char[] characters = new char[MOST_CHARACTERS];
        private int length;
        private int cursor;
        private int verb;
        private int first;
        private int second;

        void add(int character) {
            if (length >= 0 && length < characters.length) {
                characters[length] = (char) character;
                length++;
            }
        }

        /** The index of the fault, or NONE. */
        int fault() {
            rewind();
            // Every turn reads a character at least, or is the last one.
            for (int turn = 0; turn <= MOST_CHARACTERS; turn++) {
                if (!readOrder()) {
                    return cursor;
                }
                if (cursor >= length) {
                    return NONE;
                }
                if (!accept(';')) {
                    return cursor;
                }
            }
            return cursor;
        }

        void rewind() {
            cursor = 0;
        }

        /** Reads an order if there is one; else the cursor stays at the fault. */
        boolean readOrder() {
            verb = peek();
            switch (verb) {
                case 'b':
                case 'r':
                    cursor++;
                    return readNumbers('@');
                case 'h':
                    cursor++;
                    return readNumbers(',');
                case 'l':
                    cursor++;
                    return true;
                default:
                    return false;
            }
        }

        private boolean readNumbers(char between) {
            first = readNumber();
            if (first == NONE || !accept(between)) {
                return false;
            }
            second = readNumber();
            return second != NONE;
        }

        private int readNumber() {
            int number = readDigit();
            // A leading 0 stands alone.
            if (number <= 0) {
                return number;
            }
            int last = readDigit();
            return last == NONE ? number : 10 * number + last;
        }

        private int readDigit() {
            int character = peek();
            if (outside(character, '0', '9')) {
                return NONE;
            }
            cursor++;
            return character - '0';
        }

        boolean accept(char wanted) {
            if (peek() != wanted) {
                return false;
            }
            cursor++;
            return true;
        }

        /** The character at the cursor; 0, which no text holds, at the end. */
        private int peek() {
            boolean inside = cursor >= 0 && cursor < length && cursor < characters.length;
            return inside ? characters[cursor] : 0;
        }
    }
}
