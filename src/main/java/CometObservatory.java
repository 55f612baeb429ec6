import java.util.NoSuchElementException;

/**
 * A model of an observatory for comets: comets pass by their periods, lose brightness and drop dust
 * on a ring of places, a telescope follows passes, and arcs of the ring are cleaned for coins.
 */
public final class CometObservatory {
    private static final int MOST_COMETS = 6;
    private static final int LEAST_PERIOD = 2;
    private static final int MOST_DAYS = 60;
    private static final int MOST_BRIGHTNESS = 20;
    private static final int BRIGHTNESS_FOR_A_DAY_OF_TAIL = 5;
    private static final int PRICE_OF_BRIGHTNESS = 3;
    private static final int PLACES = 12;
    private static final int MOST_RATE = 9;
    private static final int FIRST_RATE = 2;
    private static final int FIRST_COINS = 20;
    private static final int MOST_UNDOS = 8;
    private static final int MOST_SIGNS = 60;
    private static final int DAYS_OF_CHECK = 20;

    /** Stands for a number that is not there; everything that is there is 0 or more. */
    private static final int NONE = -1;

    private final Sky sky;
    private final Sky savedSky;
    private final Sky skyBeforeRun;
    private final History history;
    private final Telescope telescope;
    private final Program program;
    private final StringBuilder line;
    private boolean isSaved;
    private int storedError;
    private int storedFailure;

    public CometObservatory() {
        sky = new Sky();
        savedSky = new Sky();
        skyBeforeRun = new Sky();
        history = new History();
        telescope = new Telescope();
        program = new Program();
        line = new StringBuilder();
        isSaved = false;
        storedError = NONE;
        storedFailure = NONE;
    }

    // ---- changes

    public int addComet(int period, int delay, int brightness)
            throws IllegalArgumentException, IllegalStateException {
        if (!isNewComet(period, delay, brightness)) {
            throw new IllegalArgumentException("period, delay or brightness out of range");
        }
        if (!sky.hasRoom()) {
            throw new IllegalStateException("there are 6 comets");
        }
        history.push(sky);
        return sky.add(period, delay, brightness);
    }

    public int remove(int comet) throws NoSuchElementException {
        Comet found = existing(comet);
        history.push(sky);
        sky.sell(found.id);
        return sky.coins;
    }

    public int setPeriod(int comet, int period) throws NoSuchElementException, IllegalArgumentException {
        Comet found = existing(comet);
        if (!isPeriod(period)) {
            throw new IllegalArgumentException("period out of range");
        }
        history.push(sky);
        int previous = found.period;
        found.period = period;
        return previous;
    }

    public int brighten(int comet, int amount) throws NoSuchElementException, IllegalArgumentException,
            IllegalStateException, UnsupportedOperationException {
        Comet found = existing(comet);
        if (!isAmount(amount)) {
            throw new IllegalArgumentException("amount out of range");
        }
        if (!found.canTake(amount)) {
            throw new IllegalStateException("brightness would be greater than 20");
        }
        if (!sky.canBuy(amount)) {
            throw new UnsupportedOperationException("too few coins");
        }
        history.push(sky);
        sky.buy(found, amount);
        return found.brightness;
    }

    public int passDays(int days) throws IllegalArgumentException {
        if (!isSpanOfDays(days)) {
            throw new IllegalArgumentException("days out of range");
        }
        history.push(sky);
        return sky.letPass(days);
    }

    public int clean(int start, int places)
            throws IndexOutOfBoundsException, IllegalArgumentException, IllegalStateException {
        if (!isPlace(start)) {
            throw new IndexOutOfBoundsException("no such place");
        }
        if (!isLengthOfArc(places)) {
            throw new IllegalArgumentException("number of places out of range");
        }
        if (!sky.canSweep(start, places)) {
            throw new IllegalStateException("too few coins");
        }
        history.push(sky);
        return sky.sweep(start, places);
    }

    public int setRate(int rate) throws IllegalArgumentException {
        if (!isRate(rate)) {
            throw new IllegalArgumentException("rate out of range");
        }
        history.push(sky);
        int previous = sky.rate;
        sky.rate = rate;
        return previous;
    }

    // ---- queries about comets

    public int cometCount() {
        return sky.count;
    }

    public int cometAt(int position) throws IndexOutOfBoundsException {
        if (position < 0 || position >= sky.count) {
            throw new IndexOutOfBoundsException("no comet at this position");
        }
        return sky.comets[position].id;
    }

    public boolean exists(int comet) {
        return sky.slotOf(comet) != NONE;
    }

    public int period(int comet) throws NoSuchElementException {
        return existing(comet).period;
    }

    public int brightness(int comet) throws NoSuchElementException {
        return existing(comet).brightness;
    }

    public int tail(int comet) throws NoSuchElementException {
        return tailAt(existing(comet).brightness);
    }

    public int nextPass(int comet) throws NoSuchElementException {
        return existing(comet).nextDay;
    }

    public int passesOf(int comet) throws NoSuchElementException {
        return existing(comet).passes;
    }

    public int lastPass(int comet) throws NoSuchElementException {
        Comet found = existing(comet);
        return found.nextDay + (found.brightness - 1) * found.period;
    }

    public int cometAtRank(int rank) throws IndexOutOfBoundsException {
        if (rank < 0 || rank >= sky.count) {
            throw new IndexOutOfBoundsException("no comet at this rank");
        }
        return sky.idAtRank(rank);
    }

    public int passesIn(int days) throws IllegalArgumentException {
        if (!isSpanToLookAt(days)) {
            throw new IllegalArgumentException("days out of range");
        }
        return sky.passesAhead(days);
    }

    // ---- queries about meetings

    public int nextMeeting(int one, int other)
            throws NoSuchElementException, IllegalArgumentException, UnsupportedOperationException {
        Comet first = existing(one);
        Comet second = existing(other);
        if (one == other) {
            throw new IllegalArgumentException("both ids are the same");
        }
        int meeting = Meetings.byWalking(first, second);
        if (meeting == NONE) {
            throw new UnsupportedOperationException("they never meet");
        }
        return meeting;
    }

    public int nextMeetingByRemainders(int one, int other)
            throws NoSuchElementException, IllegalArgumentException, UnsupportedOperationException {
        Comet first = existing(one);
        Comet second = existing(other);
        if (one == other) {
            throw new IllegalArgumentException("both ids are the same");
        }
        int meeting = Meetings.byEuclid(first, second);
        if (meeting == NONE) {
            throw new UnsupportedOperationException("they never meet");
        }
        return meeting;
    }

    public long alignment() throws ArithmeticException {
        if (sky.count == 0) {
            throw new ArithmeticException("there are no comets");
        }
        long days = 1;
        for (int i = 0; i < sky.count; i++) {
            days = Meetings.commonMultiple(days, sky.comets[i].period);
        }
        return days;
    }

    // ---- queries about the telescope

    public int bestWorth(int days) throws IllegalArgumentException {
        if (!isSpanToLookAt(days)) {
            throw new IllegalArgumentException("days out of range");
        }
        telescope.aim(sky, days);
        return telescope.worthByPasses();
    }

    public int bestWorthByDays(int days) throws IllegalArgumentException {
        if (!isSpanToLookAt(days)) {
            throw new IllegalArgumentException("days out of range");
        }
        telescope.aim(sky, days);
        telescope.planByDays(days);
        return telescope.worthFrom[1];
    }

    public int fewestPasses(int days) throws IllegalArgumentException {
        if (!isSpanToLookAt(days)) {
            throw new IllegalArgumentException("days out of range");
        }
        telescope.aim(sky, days);
        telescope.planByDays(days);
        return telescope.passesFrom[1];
    }

    // ---- queries about the ring

    public int dust(int place) throws IndexOutOfBoundsException {
        if (!isPlace(place)) {
            throw new IndexOutOfBoundsException("no such place");
        }
        return sky.ring.dust[place];
    }

    public int gain(int start, int places) throws IndexOutOfBoundsException, IllegalArgumentException {
        if (!isPlace(start)) {
            throw new IndexOutOfBoundsException("no such place");
        }
        if (!isLengthOfArc(places)) {
            throw new IllegalArgumentException("number of places out of range");
        }
        return sky.ring.gainOf(start, places, sky.rate);
    }

    public int bestGain() {
        return sky.ring.greatestGainByRunningSums(sky.rate);
    }

    public int bestGainByArcs() {
        sky.ring.seekBestArc(sky.rate);
        return sky.ring.gainOfBestArc;
    }

    public int bestStart() {
        sky.ring.seekBestArc(sky.rate);
        return sky.ring.startOfBestArc;
    }

    public int bestPlaces() {
        sky.ring.seekBestArc(sky.rate);
        return sky.ring.lengthOfBestArc;
    }

    // ---- totals

    public int day() {
        return sky.day;
    }

    public int coins() {
        return sky.coins;
    }

    public int rate() {
        return sky.rate;
    }

    public int dustTotal() {
        return sky.ring.dustOf(0, PLACES);
    }

    public int dustByAccounts() {
        return sky.ring.fallen - sky.ring.removed;
    }

    public int passTotal() {
        return sky.allPasses;
    }

    public int burntTotal() {
        return sky.burnt;
    }

    public double meanBrightness() throws ArithmeticException {
        if (sky.count == 0) {
            throw new ArithmeticException("there are no comets");
        }
        int sum = 0;
        for (int i = 0; i < sky.count; i++) {
            sum += sky.comets[i].brightness;
        }
        return (double) sum / (double) sky.count;
    }

    public float dustyShare() {
        return (float) sky.ring.dustyPlaces() / (float) PLACES;
    }

    public boolean isConsistent() {
        return dustTotal() == dustByAccounts()
                && bestGain() == bestGainByArcs()
                && bestWorth(DAYS_OF_CHECK) == bestWorthByDays(DAYS_OF_CHECK)
                && sky.allPassesAreAhead();
    }

    // ---- programs

    public int append(char character) throws IllegalStateException {
        if (program.isFull()) {
            throw new IllegalStateException("the buffer contains 60 characters");
        }
        program.add(character);
        return program.length;
    }

    public int run() throws IllegalArgumentException, UnsupportedOperationException {
        boolean isProgram = program.parse();
        program.length = 0;
        if (!isProgram) {
            storedError = program.position;
            throw new IllegalArgumentException("the text is not a program");
        }
        skyBeforeRun.copyFrom(sky);
        for (int i = 0; i < program.count; i++) {
            if (!carryOut(program.kinds[i], program.numbers[i][0], program.numbers[i][1], program.numbers[i][2])) {
                sky.copyFrom(skyBeforeRun);
                storedFailure = i;
                throw new UnsupportedOperationException("a command fails");
            }
        }
        history.push(skyBeforeRun);
        return program.count;
    }

    public int errorPosition() throws NoSuchElementException {
        if (storedError == NONE) {
            throw new NoSuchElementException("no error position was stored");
        }
        return storedError;
    }

    public int failedCommand() throws NoSuchElementException {
        if (storedFailure == NONE) {
            throw new NoSuchElementException("no failed command was stored");
        }
        return storedFailure;
    }

    // ---- output

    public int writeComet(int comet) throws NoSuchElementException {
        Comet found = existing(comet);
        line.setLength(0);
        line.append(found.id).append('*').append(found.brightness);
        line.append('/').append(found.period).append('@').append(found.nextDay);
        return line.length();
    }

    public int writeRing() {
        line.setLength(0);
        for (int place = 0; place < PLACES; place++) {
            if (place > 0) {
                line.append(',');
            }
            line.append(sky.ring.dust[place]);
        }
        return line.length();
    }

    public char outputAt(int index) throws IndexOutOfBoundsException {
        if (index < 0 || index >= line.length()) {
            throw new IndexOutOfBoundsException("no character at this index");
        }
        return line.charAt(index);
    }

    // ---- undo and snapshot

    public int undo() throws IllegalStateException {
        if (history.size == 0) {
            throw new IllegalStateException("no call can be undone");
        }
        history.popInto(sky);
        return history.size;
    }

    public void save() {
        savedSky.copyFrom(sky);
        isSaved = true;
    }

    public void restore() throws IllegalStateException {
        if (!isSaved) {
            throw new IllegalStateException("no state was saved");
        }
        sky.copyFrom(savedSky);
        history.size = 0;
    }

    // ---- what the methods above share

    /** For the methods whose first exception is that there is no such comet. */
    private Comet existing(int comet) throws NoSuchElementException {
        Comet found = sky.find(comet);
        if (found == null) {
            throw new NoSuchElementException("no such comet");
        }
        return found;
    }

    /**
     * Carries out one command of a program and tells whether it could. It asks the same questions as
     * the changing methods, but throws nothing and leaves the history alone: a run is one call.
     */
    private boolean carryOut(int command, int first, int second, int third) {
        switch (command) {
            case Program.COMET:
                if (!isNewComet(first, second, third) || !sky.hasRoom()) {
                    return false;
                }
                sky.add(first, second, third);
                return true;
            case Program.DROP:
                return sky.sell(first);
            case Program.TURN:
                return turn(first, second);
            case Program.SHINE:
                return shine(first, second);
            case Program.DAY:
                if (!isSpanOfDays(first)) {
                    return false;
                }
                sky.letPass(first);
                return true;
            case Program.VAC:
                if (!isPlace(first) || !isLengthOfArc(second) || !sky.canSweep(first, second)) {
                    return false;
                }
                sky.sweep(first, second);
                return true;
            case Program.RATE:
                if (!isRate(first)) {
                    return false;
                }
                sky.rate = first;
                return true;
            default:
                return false;
        }
    }

    private boolean turn(int comet, int period) {
        Comet found = sky.find(comet);
        if (found == null || !isPeriod(period)) {
            return false;
        }
        found.period = period;
        return true;
    }

    private boolean shine(int comet, int amount) {
        Comet found = sky.find(comet);
        if (found == null || !isAmount(amount) || !found.canTake(amount) || !sky.canBuy(amount)) {
            return false;
        }
        sky.buy(found, amount);
        return true;
    }

    private static boolean isNewComet(int period, int delay, int brightness) {
        return isPeriod(period) && isSpanOfDays(delay) && brightness >= 1 && brightness <= MOST_BRIGHTNESS;
    }

    private static boolean isPeriod(int period) {
        return period >= LEAST_PERIOD && period <= MOST_DAYS;
    }

    private static boolean isAmount(int amount) {
        return amount >= 1 && amount < MOST_BRIGHTNESS;
    }

    private static boolean isSpanOfDays(int days) {
        return days >= 1 && days <= MOST_DAYS;
    }

    private static boolean isSpanToLookAt(int days) {
        return days >= 0 && days <= MOST_DAYS;
    }

    private static boolean isPlace(int place) {
        return place >= 0 && place < PLACES;
    }

    private static boolean isLengthOfArc(int places) {
        return places >= 1 && places <= PLACES;
    }

    private static boolean isRate(int rate) {
        return rate >= 0 && rate <= MOST_RATE;
    }

    private static int tailAt(int brightness) {
        return 1 + brightness / BRIGHTNESS_FOR_A_DAY_OF_TAIL;
    }

    /** One comet; objects of this class are made with the sky and used again for later comets. */
    private static final class Comet {
        private int id;
        private int period;
        private int brightness;
        private int nextDay;
        private int passes;

        void copyFrom(Comet other) {
            id = other.id;
            period = other.period;
            brightness = other.brightness;
            nextDay = other.nextDay;
            passes = other.passes;
        }

        boolean canTake(int amount) {
            return brightness + amount <= MOST_BRIGHTNESS;
        }

        /** How often it passes up to a day, which may lie before its next pass. */
        int passesUpTo(int lastDay) {
            if (lastDay < nextDay || period < 1) {
                return 0;
            }
            return Math.min(brightness, 1 + (lastDay - nextDay) / period);
        }

        boolean ranksBefore(Comet other) {
            if (brightness != other.brightness) {
                return brightness > other.brightness;
            }
            if (nextDay != other.nextDay) {
                return nextDay < other.nextDay;
            }
            return id < other.id;
        }
    }

    /** All that undo, save and restore concern. The first count comets of the row exist, ids ascending. */
    private static final class Sky {
        private final Comet[] comets;
        private final Ring ring;
        private int count;
        private int nextId;
        private int day;
        private int coins;
        private int rate;
        private int allPasses;
        private int burnt;

        Sky() {
            comets = new Comet[MOST_COMETS];
            for (int i = 0; i < MOST_COMETS; i++) {
                comets[i] = new Comet();
            }
            ring = new Ring();
            coins = FIRST_COINS;
            rate = FIRST_RATE;
        }

        void copyFrom(Sky other) {
            for (int i = 0; i < MOST_COMETS; i++) {
                comets[i].copyFrom(other.comets[i]);
            }
            ring.copyFrom(other.ring);
            count = other.count;
            nextId = other.nextId;
            day = other.day;
            coins = other.coins;
            rate = other.rate;
            allPasses = other.allPasses;
            burnt = other.burnt;
        }

        boolean hasRoom() {
            return count < MOST_COMETS;
        }

        /** The caller has asked hasRoom; without room nothing is added. */
        int add(int period, int delay, int brightness) {
            if (!hasRoom()) {
                return NONE;
            }
            Comet added = comets[count];
            added.id = nextId;
            added.period = period;
            added.brightness = brightness;
            added.nextDay = day + delay;
            added.passes = 0;
            count++;
            nextId++;
            return added.id;
        }

        int slotOf(int id) {
            for (int i = 0; i < count; i++) {
                if (comets[i].id == id) {
                    return i;
                }
            }
            return NONE;
        }

        Comet find(int id) {
            int slot = slotOf(id);
            return slot == NONE ? null : comets[slot];
        }

        boolean sell(int id) {
            int slot = slotOf(id);
            if (slot == NONE) {
                return false;
            }
            coins += comets[slot].brightness;
            takeOut(slot);
            return true;
        }

        /** The comet's object moves behind those that exist, so that the row stays full of objects. */
        private void takeOut(int slot) {
            Comet gone = comets[slot];
            for (int i = slot; i < count - 1; i++) {
                comets[i] = comets[i + 1];
            }
            comets[count - 1] = gone;
            count--;
        }

        boolean canBuy(int amount) {
            return PRICE_OF_BRIGHTNESS * amount <= coins;
        }

        void buy(Comet comet, int amount) {
            coins -= PRICE_OF_BRIGHTNESS * amount;
            comet.brightness += amount;
        }

        boolean canSweep(int start, int places) {
            return coins + ring.gainOf(start, places, rate) >= 0;
        }

        int sweep(int start, int places) {
            coins += ring.gainOf(start, places, rate);
            return ring.empty(start, places);
        }

        int letPass(int days) {
            int passesBefore = allPasses;
            for (int i = 0; i < days; i++) {
                letOneDayPass();
            }
            return allPasses - passesBefore;
        }

        private void letOneDayPass() {
            day++;
            for (int i = 0; i < count; i++) {
                if (comets[i].nextDay == day) {
                    letCometPass(comets[i]);
                }
            }
            takeOutBurntComets();
        }

        private void letCometPass(Comet comet) {
            ring.receive(day, comet.brightness);
            comet.brightness--;
            comet.nextDay += comet.period;
            comet.passes++;
            allPasses++;
        }

        private void takeOutBurntComets() {
            for (int i = count - 1; i >= 0; i--) {
                if (comets[i].brightness == 0) {
                    takeOut(i);
                    burnt++;
                }
            }
        }

        int passesAhead(int days) {
            int sum = 0;
            for (int i = 0; i < count; i++) {
                sum += comets[i].passesUpTo(day + days);
            }
            return sum;
        }

        int idAtRank(int rank) {
            for (int i = 0; i < count; i++) {
                if (rankOf(comets[i]) == rank) {
                    return comets[i].id;
                }
            }
            return NONE;
        }

        private int rankOf(Comet comet) {
            int before = 0;
            for (int i = 0; i < count; i++) {
                if (comets[i].ranksBefore(comet)) {
                    before++;
                }
            }
            return before;
        }

        boolean allPassesAreAhead() {
            for (int i = 0; i < count; i++) {
                if (comets[i].nextDay <= day) {
                    return false;
                }
            }
            return true;
        }
    }

    /** The places with their dust, and the accounts of what has fallen and what was removed. */
    private static final class Ring {
        private final int[] dust;
        private int fallen;
        private int removed;
        private int gainOfBestArc;
        private int startOfBestArc;
        private int lengthOfBestArc;

        Ring() {
            dust = new int[PLACES];
        }

        /** The best arc is sought anew for each question, so it is not part of the state. */
        void copyFrom(Ring other) {
            for (int place = 0; place < PLACES; place++) {
                dust[place] = other.dust[place];
            }
            fallen = other.fallen;
            removed = other.removed;
        }

        void receive(int day, int amount) {
            dust[Math.floorMod(day, PLACES)] += amount;
            fallen += amount;
        }

        int dustOf(int start, int places) {
            int sum = 0;
            for (int i = 0; i < places; i++) {
                sum += dust[Math.floorMod(start + i, PLACES)];
            }
            return sum;
        }

        int gainOf(int start, int places, int rate) {
            return dustOf(start, places) - rate * places;
        }

        int empty(int start, int places) {
            int amount = dustOf(start, places);
            for (int i = 0; i < places; i++) {
                dust[Math.floorMod(start + i, PLACES)] = 0;
            }
            removed += amount;
            return amount;
        }

        int dustyPlaces() {
            int dusty = 0;
            for (int place = 0; place < PLACES; place++) {
                if (dust[place] > 0) {
                    dusty++;
                }
            }
            return dusty;
        }

        int greatestGainByRunningSums(int rate) {
            int sum = dust[0] - rate;
            int greatestHere = sum;
            int greatest = sum;
            int leastHere = sum;
            int least = sum;
            for (int place = 1; place < PLACES; place++) {
                int here = dust[place] - rate;
                sum += here;
                greatestHere = Math.max(greatestHere, 0) + here;
                greatest = Math.max(greatest, greatestHere);
                leastHere = Math.min(leastHere, 0) + here;
                least = Math.min(least, leastHere);
            }
            // Where every place loses, the least row is the whole ring, and nothing is no arc.
            return greatest < 0 ? greatest : Math.max(greatest, sum - least);
        }

        /** Shorter arcs come first, then lower places, so only a greater gain may take over. */
        void seekBestArc(int rate) {
            gainOfBestArc = gainOf(0, 1, rate);
            startOfBestArc = 0;
            lengthOfBestArc = 1;
            for (int places = 1; places <= PLACES; places++) {
                for (int start = 0; start < PLACES; start++) {
                    int gained = gainOf(start, places, rate);
                    if (gained > gainOfBestArc) {
                        gainOfBestArc = gained;
                        startOfBestArc = start;
                        lengthOfBestArc = places;
                    }
                }
            }
        }
    }

    /** The two ways to find a day on which two comets pass, and the least common multiple. */
    private static final class Meetings {
        /** No two numbers of type long need as many. */
        private static final int MOST_STEPS_OF_EUCLID = 100;

        /** Comets that meet at all do so before each has gone through the other's period once. */
        static int byWalking(Comet one, Comet other) {
            int oneDay = one.nextDay;
            int otherDay = other.nextDay;
            int steps = one.period + other.period + Math.abs(oneDay - otherDay);
            for (int i = 0; i < steps && oneDay != otherDay; i++) {
                if (oneDay < otherDay) {
                    oneDay += one.period;
                } else {
                    otherDay += other.period;
                }
            }
            return oneDay == otherDay ? oneDay : NONE;
        }

        /** Solves: one's next day + k times its period leaves the other's remainder by its period. */
        static int byEuclid(Comet one, Comet other) {
            int divisor = (int) commonDivisor(one.period, other.period);
            int distance = other.nextDay - one.nextDay;
            if (divisor < 1 || distance % divisor != 0) {
                return NONE;
            }
            int cycle = other.period / divisor;
            if (cycle < 1) {
                return NONE;
            }
            int factor = factorOfDivisor(one.period, other.period);
            int turns = Math.floorMod(Math.floorMod(distance / divisor, cycle) * Math.floorMod(factor, cycle), cycle);
            int earliest = Math.max(one.nextDay, other.nextDay);
            return notBefore(earliest, one.nextDay + turns * one.period, cycle * one.period);
        }

        /** The first day from earliest on that lies a multiple of the interval away from the given one. */
        private static int notBefore(int earliest, int day, int interval) {
            if (day >= earliest || interval < 1) {
                return day;
            }
            return earliest + Math.floorMod(day - earliest, interval);
        }

        /** Extended algorithm of Euclid: an f for which f * a + g * b is the greatest common divisor. */
        private static int factorOfDivisor(int a, int b) {
            int factor = 1;
            int nextFactor = 0;
            for (int i = 0; i < MOST_STEPS_OF_EUCLID && b > 0; i++) {
                int quotient = a / b;
                int rest = a % b;
                a = b;
                b = rest;
                int restFactor = factor - quotient * nextFactor;
                factor = nextFactor;
                nextFactor = restFactor;
            }
            return factor;
        }

        private static long commonDivisor(long a, long b) {
            for (int i = 0; i < MOST_STEPS_OF_EUCLID && b > 0; i++) {
                long rest = a % b;
                a = b;
                b = rest;
            }
            return a;
        }

        static long commonMultiple(long a, long b) {
            long divisor = commonDivisor(a, b);
            return divisor < 1 ? a : a / divisor * b;
        }
    }

    /** Plans which passes to follow. Days are counted from the present one, which is 0. */
    private static final class Telescope {
        private static final int MOST_PASSES = MOST_COMETS * MOST_BRIGHTNESS;

        private final int[] firstDays;
        private final int[] lastDays;
        private final int[] worths;
        private final int[] bestOfFirst;
        private final int[] worthFrom;
        private final int[] passesFrom;
        private int count;

        Telescope() {
            firstDays = new int[MOST_PASSES];
            lastDays = new int[MOST_PASSES];
            worths = new int[MOST_PASSES];
            bestOfFirst = new int[MOST_PASSES + 1];
            worthFrom = new int[MOST_DAYS + 2];
            passesFrom = new int[MOST_DAYS + 2];
        }

        /** Collects the passes that can be followed to their end, in the order of their last days. */
        void aim(Sky sky, int days) {
            count = 0;
            for (int i = 0; i < sky.count; i++) {
                Comet comet = sky.comets[i];
                int firstDay = comet.nextDay - sky.day;
                for (int worth = comet.brightness; worth > 0 && firstDay <= days; worth--) {
                    int lastDay = firstDay + tailAt(worth) - 1;
                    if (lastDay <= days) {
                        insert(firstDay, lastDay, worth);
                    }
                    firstDay += comet.period;
                }
            }
        }

        private void insert(int firstDay, int lastDay, int worth) {
            if (count >= MOST_PASSES) {
                return;
            }
            int slot = count;
            while (slot > 0 && lastDays[slot - 1] > lastDay) {
                firstDays[slot] = firstDays[slot - 1];
                lastDays[slot] = lastDays[slot - 1];
                worths[slot] = worths[slot - 1];
                slot--;
            }
            firstDays[slot] = firstDay;
            lastDays[slot] = lastDay;
            worths[slot] = worth;
            count++;
        }

        /** bestOfFirst[n] is the greatest worth of a plan of the first n passes alone. */
        int worthByPasses() {
            bestOfFirst[0] = 0;
            for (int i = 0; i < count; i++) {
                int followed = worths[i] + bestOfFirst[endedBefore(firstDays[i], i)];
                bestOfFirst[i + 1] = Math.max(bestOfFirst[i], followed);
            }
            return bestOfFirst[count];
        }

        /** How many of the first passes have their last day before a day. */
        private int endedBefore(int day, int most) {
            int ended = most;
            while (ended > 0 && lastDays[ended - 1] >= day) {
                ended--;
            }
            return ended;
        }

        /** From day 1 on, the rows tell the best worth and the fewest passes that reach it. */
        void planByDays(int days) {
            worthFrom[days + 1] = 0;
            passesFrom[days + 1] = 0;
            for (int day = days; day > 0; day--) {
                worthFrom[day] = worthFrom[day + 1];
                passesFrom[day] = passesFrom[day + 1];
                for (int i = 0; i < count; i++) {
                    if (firstDays[i] == day) {
                        offer(day, worths[i] + worthFrom[lastDays[i] + 1], 1 + passesFrom[lastDays[i] + 1]);
                    }
                }
            }
        }

        private void offer(int day, int worth, int passes) {
            if (worth > worthFrom[day] || worth == worthFrom[day] && passes < passesFrom[day]) {
                worthFrom[day] = worth;
                passesFrom[day] = passes;
            }
        }
    }

    /** The text buffer, and its commands once it has been parsed. */
    private static final class Program {
        private static final int COMET = 0;
        private static final int DROP = 1;
        private static final int TURN = 2;
        private static final int SHINE = 3;
        private static final int DAY = 4;
        private static final int VAC = 5;
        private static final int RATE = 6;
        private static final int KINDS = 7;
        private static final int MOST_NUMBERS = 3;
        /** The shortest command has five characters. */
        private static final int MOST_COMMANDS = MOST_SIGNS / 5;

        private final char[] text;
        private final int[] kinds;
        private final int[][] numbers;
        private int length;
        private int position;
        private int count;

        Program() {
            text = new char[MOST_SIGNS];
            kinds = new int[MOST_COMMANDS];
            numbers = new int[MOST_COMMANDS][MOST_NUMBERS];
        }

        boolean isFull() {
            return length >= MOST_SIGNS;
        }

        void add(char sign) {
            if (!isFull()) {
                text[length] = sign;
                length++;
            }
        }

        /** Tells whether the text is a program; if it is not, position is the error position. */
        boolean parse() {
            position = 0;
            count = 0;
            while (count < MOST_COMMANDS) {
                if (!readCommand()) {
                    return false;
                }
                count++;
                if (position == length) {
                    return true;
                }
                if (!readSign(';')) {
                    return false;
                }
            }
            return false;
        }

        private boolean readCommand() {
            int kind = readWord();
            if (kind == NONE) {
                return false;
            }
            kinds[count] = kind;
            for (int i = 0; i < numbersOf(kind); i++) {
                if (i > 0 && !readSign(' ')) {
                    return false;
                }
                int number = readNumber(digitsOf(kind));
                if (number == NONE) {
                    return false;
                }
                numbers[count][i] = number;
            }
            return true;
        }

        /** If no word stands here, the position goes as far as one of the words could still go on. */
        private int readWord() {
            int furthest = 0;
            for (int kind = 0; kind < KINDS; kind++) {
                String word = wordOf(kind);
                int matched = matchedSigns(word);
                if (matched == word.length()) {
                    position += matched;
                    return kind;
                }
                furthest = Math.max(furthest, matched);
            }
            position += furthest;
            return NONE;
        }

        private int matchedSigns(String word) {
            int matched = 0;
            while (matched < word.length() && position + matched < length
                    && text[position + matched] == word.charAt(matched)) {
                matched++;
            }
            return matched;
        }

        private boolean readSign(char sign) {
            if (position >= length || text[position] != sign) {
                return false;
            }
            position++;
            return true;
        }

        private int readNumber(int mostDigits) {
            if (!isAtDigit()) {
                return NONE;
            }
            int number = 0;
            for (int i = 0; i < mostDigits && isAtDigit(); i++) {
                number = number * 10 + (text[position] - '0');
                position++;
            }
            return number;
        }

        private boolean isAtDigit() {
            return position < length && text[position] >= '0' && text[position] <= '9';
        }

        private static String wordOf(int kind) {
            switch (kind) {
                case COMET:
                    return "comet ";
                case DROP:
                    return "drop ";
                case TURN:
                    return "turn ";
                case SHINE:
                    return "shine ";
                case DAY:
                    return "day ";
                case VAC:
                    return "vac ";
                default:
                    return "rate ";
            }
        }

        private static int numbersOf(int kind) {
            switch (kind) {
                case COMET:
                    return MOST_NUMBERS;
                case TURN:
                case SHINE:
                case VAC:
                    return 2;
                default:
                    return 1;
            }
        }

        private static int digitsOf(int kind) {
            return kind == RATE ? 1 : 2;
        }
    }

    /** The states before the most recent changing calls, in a round of rows that are used again. */
    private static final class History {
        private final Sky[] states;
        private int oldest;
        private int size;

        History() {
            states = new Sky[MOST_UNDOS];
            for (int i = 0; i < MOST_UNDOS; i++) {
                states[i] = new Sky();
            }
        }

        void push(Sky sky) {
            states[Math.floorMod(oldest + size, MOST_UNDOS)].copyFrom(sky);
            if (size < MOST_UNDOS) {
                size++;
            } else {
                oldest = Math.floorMod(oldest + 1, MOST_UNDOS);
            }
        }

        void popInto(Sky sky) {
            if (size > 0) {
                size--;
                sky.copyFrom(states[Math.floorMod(oldest + size, MOST_UNDOS)]);
            }
        }
    }
}
