/** Plugs along a road: cars, trips, sites stepped by ticks, tries, advice and two firms' books. */
public final class RoadPlugs {
    public static final int NUMBER = -1;
    public static final int FULL = -2;
    public static final int NONE = -3;
    public static final int STATE = -4;

    private static final int MOST_SITES = 6;
    private static final int MOST_PLUGS = 16;
    private static final int MOST_CARS = 12;
    private static final int MOST_TRIES = 60;
    private static final int MOST_LINES = 7;
    private static final int MOST_BYTES = 100;
    private static final int LAST_KM = 999;
    private static final int LAST_TICK = 2000;
    private static final int HOURS = 24;
    private static final int CABLES = 3;
    private static final int LARGEST_BATTERY = 200;
    private static final int LARGEST_POWER = 300;

    /** Where a car is: away, or one of these and the number of the site or the plug. */
    private static final int AWAY = 0;
    private static final int IN_QUEUE = 100;
    private static final int AT_PLUG = 200;

    private static final int NOBODY = -1;

    private final World world = new World();
    private final World kept = new World();
    private final Tape tape = new Tape();
    private final Planner planner = new Planner();
    private final Stepper stepper = new Stepper();
    private final Adviser adviser = new Adviser();
    private final Joiner joiner = new Joiner();
    private boolean anyKept = false;

    public RoadPlugs() {
    }

    // ---- the road

    public int site(int km, int power) {
        if (isOutside(km, 0, LAST_KM) || isOutside(power, 1, LARGEST_POWER)) {
            return NUMBER;
        }
        int count = world.siteCount;
        if (count > 0 && km <= world.sites[count - 1].km) {
            return STATE;
        }
        if (count >= MOST_SITES) {
            return FULL;
        }
        Site made = world.sites[count];
        made.km = km;
        made.power = power;
        world.siteCount = count + 1;
        return count;
    }

    public int plug(int site, int most, int cable) {
        if (!world.hasSite(site) || isOutside(most, 1, 150) || isOutside(cable, 0, CABLES - 1)) {
            return NUMBER;
        }
        int count = world.plugCount;
        if (count >= MOST_PLUGS) {
            return FULL;
        }
        Plug made = world.plugs[count];
        made.site = site;
        made.most = most;
        made.cable = cable;
        world.sites[site].addPlug(count);
        world.plugCount = count + 1;
        return count;
    }

    public int car(int battery, int use, int rate, int cable, int charge) {
        if (isOutside(battery, 10, LARGEST_BATTERY) || isOutside(use, 1, 40) || isOutside(rate, 1, 150)
                || isOutside(cable, 0, CABLES - 1) || isOutside(charge, 0, battery)) {
            return NUMBER;
        }
        int count = world.carCount;
        if (count >= MOST_CARS) {
            return FULL;
        }
        Car made = world.cars[count];
        made.battery = battery;
        made.use = use;
        made.rate = rate;
        made.cable = cable;
        made.charge = charge;
        world.carCount = count + 1;
        return count;
    }

    public int set(int which, int v) {
        int was = NUMBER;
        if (which == 0 && !isOutside(v, 0, 50)) {
            was = world.cold;
            world.cold = v;
        } else if (which == 1 && !isOutside(v, 0, 20)) {
            was = world.drift;
            world.drift = v;
        } else if (!isOutside(which, 10, 10 + HOURS - 1) && !isOutside(v, 0, 99)) {
            was = world.prices[which - 10];
            world.prices[which - 10] = v;
        } else if (which >= 40 && world.hasSite(which - 40) && !isOutside(v, 0, 99)) {
            was = world.sites[which - 40].waitTold;
            world.sites[which - 40].waitTold = v;
        }
        return was;
    }

    public int drive(int car, int n, int what) {
        if (!world.hasCar(car) || isOutside(n, 0, LAST_KM) || isOutside(what, 0, 1)) {
            return NUMBER;
        }
        return what == 0 ? World.ticksToDrive(n) : world.chargeToDrive(world.cars[car], n);
    }

    public int gain(int car, int plug, int c) {
        if (!world.hasCar(car) || !world.hasPlug(plug) || isOutside(c, 0, world.cars[car].battery)) {
            return NUMBER;
        }
        return world.gainOf(world.cars[car], world.plugs[plug].most, c);
    }

    public int of(int car, int what) {
        if (!world.hasCar(car)) {
            return NUMBER;
        }
        Car asked = world.cars[car];
        switch (what) {
            case 0:
                return asked.charge;
            case 1:
                return asked.where;
            case 2:
                return asked.want;
            case 3:
                return asked.got;
            case 4:
                return asked.waited;
            case 5:
                return asked.idleInAll;
            case 6:
                return asked.pays;
            case 7:
                return world.placeInQueue(car);
            default:
                return NUMBER;
        }
    }

    // ---- trips

    public int trip(int car, int a, int b, int what) {
        boolean ofSite = what >= 10 && world.hasSite(what - 10);
        if (!world.hasCar(car) || isOutside(a, 0, LAST_KM - 1) || isOutside(b, a + 1, LAST_KM)
                || !ofSite && isOutside(what, 0, 2)) {
            return NUMBER;
        }
        if (!planner.findTrip(world, world.cars[car], a, b)) {
            return NONE;
        }
        switch (what) {
            case 0:
                return planner.tripTicks;
            case 1:
                return planner.tripStops;
            case 2:
                return planner.endCharge;
            default:
                return planner.times[what - 10];
        }
    }

    // ---- rules

    public int feed(long eight, int n) {
        if (isOutside(n, 1, 8)) {
            return NUMBER;
        }
        if (tape.length + n > MOST_BYTES) {
            return FULL;
        }
        for (int i = 0; i < n; i++) {
            tape.addByte((int) ((eight >>> (8 * i)) & 255L));
        }
        return tape.length;
    }

    public int read(int site) {
        int answer = NUMBER;
        if (world.hasSite(site)) {
            answer = tape.parse();
            if (answer >= 0) {
                tape.giveRulesTo(world.sites[site]);
            }
        }
        tape.length = 0;
        return answer;
    }

    public int siteOf(int site, int what) {
        if (!world.hasSite(site)) {
            return NUMBER;
        }
        Site asked = world.sites[site];
        switch (what) {
            case 0:
                return asked.km;
            case 1:
                return asked.power;
            case 2:
                return asked.sharesFirst ? 1 : 0;
            case 3:
                return asked.cap;
            case 4:
                return asked.idlePrice;
            case 5:
                return asked.idleAfter;
            case 6:
                return asked.queued;
            case 7:
                return asked.waitTold;
            case 8:
                return asked.given;
            default:
                return NUMBER;
        }
    }

    // ---- ticks

    public int come(int car, int site, int want, int stay) {
        if (!world.hasCar(car) || !world.hasSite(site)
                || isOutside(want, world.cars[car].charge, world.cars[car].battery) || isOutside(stay, 0, 50)) {
            return NUMBER;
        }
        Car comer = world.cars[car];
        if (comer.where != AWAY) {
            return STATE;
        }
        comer.want = want;
        comer.stay = stay;
        comer.idle = 0;
        comer.triedPlugs = 0;
        comer.where = IN_QUEUE + site;
        world.sites[site].addLast(car);
        return world.sites[site].queued - 1;
    }

    public int leave(int car) {
        if (!world.hasCar(car)) {
            return NUMBER;
        }
        int was = world.cars[car].where;
        if (was == AWAY) {
            return STATE;
        }
        world.sendAway(car);
        return was;
    }

    public int go(int car, int n) {
        if (!world.hasCar(car) || isOutside(n, 1, LAST_KM)) {
            return NUMBER;
        }
        Car goer = world.cars[car];
        if (goer.where != AWAY) {
            return STATE;
        }
        int needed = world.chargeToDrive(goer, n);
        if (needed > goer.charge) {
            return NONE;
        }
        goer.charge -= needed;
        return goer.charge;
    }

    public int fail(int plug, boolean is) {
        if (!world.hasPlug(plug)) {
            return NUMBER;
        }
        boolean isNew = world.plugs[plug].fails != is;
        world.plugs[plug].fails = is;
        return isNew ? 1 : 0;
    }

    public int ticks(int n) {
        if (isOutside(n, 1, 100)) {
            return NUMBER;
        }
        if (world.now + n > LAST_TICK) {
            return STATE;
        }
        int before = world.given;
        for (int i = 0; i < n; i++) {
            stepper.goOneTick(world);
        }
        return world.given - before;
    }

    public int plugOf(int plug, int what) {
        if (!world.hasPlug(plug)) {
            return NUMBER;
        }
        Plug asked = world.plugs[plug];
        switch (what) {
            case 0:
                return asked.site;
            case 1:
                return asked.most;
            case 2:
                return asked.cable;
            case 3:
                return asked.car == NOBODY ? NONE : asked.car;
            case 4:
                return world.tries.isBroken(plug) ? 1 : 0;
            case 5:
                return asked.saysWorks ? 1 : 0;
            case 6:
                return world.tries.countOf(plug);
            default:
                return NUMBER;
        }
    }

    // ---- tries

    public int says(int plug, boolean works) {
        if (!world.hasPlug(plug)) {
            return NUMBER;
        }
        boolean isNew = world.plugs[plug].saysWorks != works;
        world.plugs[plug].saysWorks = works;
        return isNew ? 1 : 0;
    }

    public int tried(int plug, int car, boolean failed) {
        if (!world.hasPlug(plug) || !world.hasCar(car)) {
            return NUMBER;
        }
        world.tries.addTry(plug, car, world.now, failed);
        return world.tries.count;
    }

    public int tryOf(int i, int what) {
        if (isOutside(what, 0, 3)) {
            return NUMBER;
        }
        if (isOutside(i, 0, world.tries.count - 1)) {
            return NONE;
        }
        int slot = world.tries.slotOf(i);
        switch (what) {
            case 0:
                return world.tries.plugs[slot];
            case 1:
                return world.tries.cars[slot];
            case 2:
                return world.tries.ticks[slot];
            default:
                return world.tries.failures[slot];
        }
    }

    public int lies() {
        int bits = 0;
        for (int p = 0; p < world.plugCount; p++) {
            boolean lie = world.plugs[p].saysWorks ? world.tries.isBroken(p) : world.tries.wentWellLast(p);
            if (lie) {
                bits |= 1 << p;
            }
        }
        return bits;
    }

    // ---- advice

    public int advice(int n, int a, int what) {
        if (isOutside(n, 1, world.carCount) || isOutside(a, 0, LAST_KM)) {
            return NUMBER;
        }
        boolean ofSame = what == 0 || !isOutside(what, 10, 10 + n - 1);
        boolean ofParted = what == 1 || !isOutside(what, 30, 30 + n - 1);
        if (!ofSame && !ofParted) {
            return NUMBER;
        }
        adviser.advise(world, n, a, ofParted);
        if (what <= 1) {
            return adviser.mostAtOneSite();
        }
        return adviser.goals[ofParted ? what - 30 : what - 10];
    }

    // ---- books

    public int line(boolean second, int car, int tick, int units) {
        if (isOutside(car, 0, MOST_CARS - 1) || isOutside(tick, 0, LAST_TICK) || isOutside(units, 0, 200)) {
            return NUMBER;
        }
        Book book = second ? world.bookB : world.bookA;
        if (book.count >= MOST_LINES) {
            return FULL;
        }
        book.addLine(car, tick, units);
        return book.count - 1;
    }

    public int joined(int what) {
        if (isOutside(what, 0, 1) && isOutside(what, 10, 10 + world.bookA.count - 1)) {
            return NUMBER;
        }
        joiner.join(world.bookA, world.bookB, world.drift);
        switch (what) {
            case 0:
                return joiner.pairs;
            case 1:
                return joiner.differences;
            default:
                return joiner.partners[what - 10];
        }
    }

    public int clear() {
        int were = world.bookA.count + world.bookB.count;
        world.bookA.count = 0;
        world.bookB.count = 0;
        return were;
    }

    public int many(int what) {
        switch (what) {
            case 0:
                return world.now;
            case 1:
                return world.siteCount;
            case 2:
                return world.plugCount;
            case 3:
                return world.carCount;
            case 4:
                return world.carsInQueues();
            case 5:
                return world.carsAtPlugs();
            case 6:
                return world.tries.count;
            case 7:
                return world.bookA.count;
            case 8:
                return world.bookB.count;
            case 9:
                return tape.length;
            case 10:
                return world.given;
            case 11:
                return world.paidByAll();
            default:
                return NUMBER;
        }
    }

    // ---- kept

    public int keep() {
        kept.copyFrom(world);
        anyKept = true;
        return 1;
    }

    public int back() {
        if (!anyKept) {
            return NONE;
        }
        world.copyFrom(kept);
        return 1;
    }

    private static boolean isOutside(int v, int least, int greatest) {
        return v < least || v > greatest;
    }

    private static int cutUp(int amount, int by) {
        return by > 0 ? (amount + by - 1) / by : 0;
    }

    /** A site with its rules, its queue and the numbers of its plugs. */
    private static final class Site {
        int km;
        int power;
        int waitTold;
        int given;
        boolean sharesFirst;
        int cap = 100;
        int idlePrice;
        int idleAfter = 100;
        int queued;
        int plugCount;
        final int[] queue = new int[MOST_CARS];
        final int[] plugs = new int[MOST_PLUGS];

        void copyFrom(Site other) {
            km = other.km;
            power = other.power;
            waitTold = other.waitTold;
            given = other.given;
            sharesFirst = other.sharesFirst;
            cap = other.cap;
            idlePrice = other.idlePrice;
            idleAfter = other.idleAfter;
            queued = other.queued;
            plugCount = other.plugCount;
            System.arraycopy(other.queue, 0, queue, 0, MOST_CARS);
            System.arraycopy(other.plugs, 0, plugs, 0, MOST_PLUGS);
        }

        void addPlug(int plug) {
            if (plugCount < MOST_PLUGS) {
                plugs[plugCount] = plug;
                plugCount++;
            }
        }

        void addLast(int car) {
            if (queued < MOST_CARS) {
                queue[queued] = car;
                queued++;
            }
        }

        void addFirst(int car) {
            if (queued < MOST_CARS) {
                for (int i = queued; i > 0; i--) {
                    queue[i] = queue[i - 1];
                }
                queue[0] = car;
                queued++;
            }
        }

        void removeAt(int place) {
            if (place >= 0 && place < queued) {
                for (int i = place; i + 1 < queued; i++) {
                    queue[i] = queue[i + 1];
                }
                queued--;
            }
        }

        int placeOf(int car) {
            for (int i = 0; i < queued; i++) {
                if (queue[i] == car) {
                    return i;
                }
            }
            return NONE;
        }
    }

    /** A plug: what it is, what it says, and who is at it. */
    private static final class Plug {
        int site;
        int most;
        int cable;
        int car = NOBODY;
        boolean fails;
        boolean saysWorks = true;

        void copyFrom(Plug other) {
            site = other.site;
            most = other.most;
            cable = other.cable;
            car = other.car;
            fails = other.fails;
            saysWorks = other.saysWorks;
        }
    }

    /** A car: what it is, where it is, and what it has got and pays. */
    private static final class Car {
        int battery;
        int use;
        int rate;
        int cable;
        int charge;
        int where = AWAY;
        int want;
        int stay;
        /** Idle ticks since it came: its stay and the free ones are of one coming. */
        int idle;
        int idleInAll;
        int got;
        int waited;
        int pays;
        /** Plugs that it has tried since it came, as bits. */
        int triedPlugs;
        /** The tick in which it came to its plug. */
        int pluggedAt;

        void copyFrom(Car other) {
            battery = other.battery;
            use = other.use;
            rate = other.rate;
            cable = other.cable;
            charge = other.charge;
            where = other.where;
            want = other.want;
            stay = other.stay;
            idle = other.idle;
            idleInAll = other.idleInAll;
            got = other.got;
            waited = other.waited;
            pays = other.pays;
            triedPlugs = other.triedPlugs;
            pluggedAt = other.pluggedAt;
        }
    }

    /** The latest tries, in a ring: the oldest goes when one too many comes. */
    private static final class Tries {
        final int[] plugs = new int[MOST_TRIES];
        final int[] cars = new int[MOST_TRIES];
        final int[] ticks = new int[MOST_TRIES];
        final int[] failures = new int[MOST_TRIES];
        int oldest;
        int count;

        void copyFrom(Tries other) {
            System.arraycopy(other.plugs, 0, plugs, 0, MOST_TRIES);
            System.arraycopy(other.cars, 0, cars, 0, MOST_TRIES);
            System.arraycopy(other.ticks, 0, ticks, 0, MOST_TRIES);
            System.arraycopy(other.failures, 0, failures, 0, MOST_TRIES);
            oldest = other.oldest;
            count = other.count;
        }

        int slotOf(int i) {
            return (oldest + i) % MOST_TRIES;
        }

        void addTry(int plug, int car, int tick, boolean failed) {
            int slot = slotOf(count);
            plugs[slot] = plug;
            cars[slot] = car;
            ticks[slot] = tick;
            failures[slot] = failed ? 1 : 0;
            if (count < MOST_TRIES) {
                count++;
            } else {
                oldest = slotOf(1);
            }
        }

        int countOf(int plug) {
            int found = 0;
            for (int i = 0; i < count; i++) {
                if (plugs[slotOf(i)] == plug) {
                    found++;
                }
            }
            return found;
        }

        boolean isBroken(int plug) {
            int failedCars = 0;
            for (int i = count - 1; i >= 0; i--) {
                int slot = slotOf(i);
                if (plugs[slot] == plug) {
                    if (failures[slot] == 0) {
                        break;
                    }
                    failedCars |= 1 << cars[slot];
                }
            }
            return Integer.bitCount(failedCars) >= 2;
        }

        boolean wentWellLast(int plug) {
            for (int i = count - 1; i >= 0; i--) {
                int slot = slotOf(i);
                if (plugs[slot] == plug) {
                    return failures[slot] == 0;
                }
            }
            return false;
        }
    }

    /** One firm's lines. */
    private static final class Book {
        final int[] cars = new int[MOST_LINES];
        final int[] ticks = new int[MOST_LINES];
        final int[] units = new int[MOST_LINES];
        int count;

        void copyFrom(Book other) {
            System.arraycopy(other.cars, 0, cars, 0, MOST_LINES);
            System.arraycopy(other.ticks, 0, ticks, 0, MOST_LINES);
            System.arraycopy(other.units, 0, units, 0, MOST_LINES);
            count = other.count;
        }

        void addLine(int car, int tick, int unit) {
            if (count < MOST_LINES) {
                cars[count] = car;
                ticks[count] = tick;
                units[count] = unit;
                count++;
            }
        }
    }

    /** All that keep() keeps. */
    private static final class World {
        final Site[] sites = new Site[MOST_SITES];
        final Plug[] plugs = new Plug[MOST_PLUGS];
        final Car[] cars = new Car[MOST_CARS];
        final int[] prices = new int[HOURS];
        final Tries tries = new Tries();
        final Book bookA = new Book();
        final Book bookB = new Book();
        int siteCount;
        int plugCount;
        int carCount;
        int cold;
        int drift;
        int now;
        int given;

        /** All rows are made here and used again, so that no call makes an object. */
        World() {
            for (int i = 0; i < MOST_SITES; i++) {
                sites[i] = new Site();
            }
            for (int i = 0; i < MOST_PLUGS; i++) {
                plugs[i] = new Plug();
            }
            for (int i = 0; i < MOST_CARS; i++) {
                cars[i] = new Car();
            }
            for (int i = 0; i < HOURS; i++) {
                prices[i] = 10;
            }
        }

        void copyFrom(World other) {
            for (int i = 0; i < MOST_SITES; i++) {
                sites[i].copyFrom(other.sites[i]);
            }
            for (int i = 0; i < MOST_PLUGS; i++) {
                plugs[i].copyFrom(other.plugs[i]);
            }
            for (int i = 0; i < MOST_CARS; i++) {
                cars[i].copyFrom(other.cars[i]);
            }
            System.arraycopy(other.prices, 0, prices, 0, HOURS);
            tries.copyFrom(other.tries);
            bookA.copyFrom(other.bookA);
            bookB.copyFrom(other.bookB);
            siteCount = other.siteCount;
            plugCount = other.plugCount;
            carCount = other.carCount;
            cold = other.cold;
            drift = other.drift;
            now = other.now;
            given = other.given;
        }

        boolean hasSite(int s) {
            return s >= 0 && s < siteCount;
        }

        boolean hasPlug(int p) {
            return p >= 0 && p < plugCount;
        }

        boolean hasCar(int c) {
            return c >= 0 && c < carCount;
        }

        static int ticksToDrive(int kms) {
            return cutUp(kms, 8);
        }

        int chargeToDrive(Car car, int kms) {
            return cutUp(kms * car.use * (100 + cold), 10000);
        }

        int gainOf(Car car, int most, int charge) {
            int units = Math.min(car.rate, most) * (100 - cold) / 100;
            if (20 * charge >= 19 * car.battery) {
                units = units / 4;
            } else if (5 * charge >= 4 * car.battery) {
                units = units / 2;
            }
            return Math.min(Math.max(units, 1), car.battery - charge);
        }

        int priceNow() {
            return prices[now / 12 % HOURS];
        }

        /** The greatest MOST of a site's plugs that serve a cable, or 0: no plug does. */
        int mostThatServes(Site site, int cable) {
            int most = 0;
            for (int i = 0; i < site.plugCount; i++) {
                int p = site.plugs[i];
                Plug plug = plugs[p];
                if (plug.cable == cable && plug.most > most && !tries.isBroken(p)) {
                    most = plug.most;
                }
            }
            return most;
        }

        boolean isAwaited(Site site, int cable) {
            for (int i = 0; i < site.queued; i++) {
                if (cars[site.queue[i]].cable == cable) {
                    return true;
                }
            }
            return false;
        }

        int placeInQueue(int c) {
            int where = cars[c].where;
            if (where < IN_QUEUE || where >= AT_PLUG) {
                return NONE;
            }
            return sites[where - IN_QUEUE].placeOf(c);
        }

        void sendAway(int c) {
            int where = cars[c].where;
            if (where >= AT_PLUG) {
                plugs[where - AT_PLUG].car = NOBODY;
            } else if (where >= IN_QUEUE) {
                Site site = sites[where - IN_QUEUE];
                site.removeAt(site.placeOf(c));
            }
            cars[c].where = AWAY;
        }

        int carsInQueues() {
            int sum = 0;
            for (int s = 0; s < siteCount; s++) {
                sum += sites[s].queued;
            }
            return sum;
        }

        int carsAtPlugs() {
            int sum = 0;
            for (int p = 0; p < plugCount; p++) {
                if (plugs[p].car != NOBODY) {
                    sum++;
                }
            }
            return sum;
        }

        int paidByAll() {
            int sum = 0;
            for (int c = 0; c < carCount; c++) {
                sum += cars[c].pays;
            }
            return sum;
        }
    }

    /**
     * Finds the trip from its end: the cost of the rest of the way is known for each place and charge.
     * A cost is eight times the ticks and the stops (six at most), so that one comparison orders both.
     */
    private static final class Planner {
        private static final int TICK_COST = 8;
        private static final int NO_WAY = 1000000;

        /** The sites on the way; leg i leads to place i, the last leg to the end. */
        final int[] places = new int[MOST_SITES];
        final int[] mosts = new int[MOST_SITES];
        final int[] legTicks = new int[MOST_SITES + 1];
        final int[] legCharges = new int[MOST_SITES + 1];
        /** The least cost from a place on: as the car arrives, and as it has charged for some ticks. */
        final int[][] onArrival = new int[MOST_SITES + 1][LARGEST_BATTERY + 1];
        final int[][] whileCharging = new int[MOST_SITES][LARGEST_BATTERY + 1];
        int placeCount;

        /** The trip that was found; times are by sites. */
        final int[] times = new int[MOST_SITES];
        int tripTicks;
        int tripStops;
        int endCharge;

        boolean findTrip(World w, Car car, int a, int b) {
            layOutLegs(w, car, a, b);
            for (int c = 0; c <= car.battery; c++) {
                onArrival[placeCount][c] = 0;
            }
            for (int k = placeCount - 1; k >= 0; k--) {
                fillCosts(w, car, k);
            }
            if (car.charge < legCharges[0]) {
                return false;
            }
            int cost = legTicks[0] * TICK_COST + onArrival[0][car.charge - legCharges[0]];
            if (cost >= NO_WAY) {
                return false;
            }
            tripTicks = cost / TICK_COST;
            tripStops = cost % TICK_COST;
            followTrip(w, car);
            return true;
        }

        private void layOutLegs(World w, Car car, int a, int b) {
            placeCount = 0;
            int from = a;
            for (int s = 0; s < w.siteCount; s++) {
                Site site = w.sites[s];
                if (site.km > a && site.km <= b) {
                    places[placeCount] = s;
                    mosts[placeCount] = w.mostThatServes(site, car.cable);
                    setLeg(w, car, site.km - from);
                    from = site.km;
                    placeCount++;
                }
            }
            setLeg(w, car, b - from);
        }

        private void setLeg(World w, Car car, int kms) {
            legTicks[placeCount] = World.ticksToDrive(kms);
            legCharges[placeCount] = w.chargeToDrive(car, kms);
        }

        private int costToLeave(int k, int charge) {
            int left = charge - legCharges[k + 1];
            return left < 0 ? NO_WAY : legTicks[k + 1] * TICK_COST + onArrival[k + 1][left];
        }

        /** Greater charges first: charging leads from a lesser one to a greater one. */
        private void fillCosts(World w, Car car, int k) {
            int waiting = w.sites[places[k]].waitTold * TICK_COST;
            for (int c = car.battery; c >= 0; c--) {
                int leaving = costToLeave(k, c);
                onArrival[k][c] = leaving;
                whileCharging[k][c] = leaving;
                int units = w.gainOf(car, mosts[k], c);
                if (mosts[k] > 0 && units > 0) {
                    int charging = TICK_COST + whileCharging[k][c + units];
                    whileCharging[k][c] = Math.min(leaving, charging);
                    onArrival[k][c] = Math.min(leaving, waiting + 1 + charging);
                }
            }
        }

        /** Of equal costs it leaves: that is the lesser time at the earlier site. */
        private void followTrip(World w, Car car) {
            for (int s = 0; s < MOST_SITES; s++) {
                times[s] = 0;
            }
            int c = car.charge - legCharges[0];
            for (int k = 0; k < placeCount; k++) {
                int t = 0;
                boolean charges = onArrival[k][c] < costToLeave(k, c);
                while (charges && t <= LARGEST_BATTERY) {
                    c += w.gainOf(car, mosts[k], c);
                    t++;
                    charges = whileCharging[k][c] < costToLeave(k, c);
                }
                times[places[k]] = t;
                c -= legCharges[k + 1];
            }
            endCharge = c;
        }
    }

    /** The tape of bytes, and the reader of its rules. */
    private static final class Tape {
        private static final int END = 0;
        private static final int WORD = 1;
        private static final int DIGITS = 2;
        private static final int OTHER = 3;
        private static final int BLANK = 32;
        private static final int SEMICOLON = 59;
        private static final int LARGEST_NUMBER = 100;
        private static final int FAULTS = -100;

        final int[] bytes = new int[MOST_BYTES];
        int length;

        /** The token that was read last: its kind, its first byte, and the byte behind it. */
        private int kind;
        private int start;
        private int end;

        /** What the text tells so far; a value of -1 stands for a rule that is not there. */
        private int shareRule;
        private int capRule;
        private int idleRule;
        private int afterRule;

        void addByte(int b) {
            if (length < MOST_BYTES) {
                bytes[length] = b;
                length++;
            }
        }

        /** How many rules there are, or -100 less the fault. */
        int parse() {
            shareRule = -1;
            capRule = -1;
            idleRule = -1;
            afterRule = -1;
            end = 0;
            int rules = 0;
            nextToken();
            while (kind != END && rules < MOST_BYTES) {
                if (!parseRule() || !parseSemicolon()) {
                    return FAULTS - start;
                }
                rules++;
                nextToken();
            }
            return rules;
        }

        void giveRulesTo(Site site) {
            site.sharesFirst = shareRule == 1;
            site.cap = capRule >= 0 ? capRule : 100;
            site.idlePrice = idleRule >= 0 ? idleRule : 0;
            site.idleAfter = afterRule >= 0 ? afterRule : 100;
        }

        private boolean parseRule() {
            if (isWord("share") && shareRule < 0) {
                return parseShare();
            }
            if (isWord("cap") && capRule < 0) {
                capRule = parseNumber();
                return capRule >= 0;
            }
            if (isWord("idle") && idleRule < 0) {
                return parseIdle();
            }
            return false;
        }

        private boolean parseShare() {
            nextToken();
            if (isWord("even")) {
                shareRule = 0;
            } else if (isWord("first")) {
                shareRule = 1;
            }
            return shareRule >= 0;
        }

        private boolean parseIdle() {
            idleRule = parseNumber();
            if (idleRule < 0) {
                return false;
            }
            nextToken();
            if (!isWord("after")) {
                return false;
            }
            afterRule = parseNumber();
            return afterRule >= 0;
        }

        private boolean parseSemicolon() {
            nextToken();
            return kind == OTHER && bytes[start] == SEMICOLON;
        }

        /** The number that comes next, or -1 if none that may be does. */
        private int parseNumber() {
            nextToken();
            if (kind != DIGITS || end - start > 3) {
                return -1;
            }
            int value = 0;
            for (int i = start; i < end; i++) {
                value = value * 10 + bytes[i] - '0';
            }
            return value <= LARGEST_NUMBER ? value : -1;
        }

        private boolean isWord(String word) {
            if (kind != WORD || end - start != word.length()) {
                return false;
            }
            for (int i = start; i < end; i++) {
                if (bytes[i] != word.charAt(i - start)) {
                    return false;
                }
            }
            return true;
        }

        private void nextToken() {
            start = end;
            while (start < length && bytes[start] == BLANK) {
                start++;
            }
            end = start;
            if (start >= length) {
                kind = END;
                return;
            }
            kind = kindOf(bytes[start]);
            end++;
            while (kind != OTHER && end < length && kindOf(bytes[end]) == kind) {
                end++;
            }
        }

        private static int kindOf(int b) {
            if (b >= 'a' && b <= 'z') {
                return WORD;
            }
            return b >= '0' && b <= '9' ? DIGITS : OTHER;
        }
    }

    /** Lets a tick go; the rows are by plugs' numbers. */
    private static final class Stepper {
        final int[] asked = new int[MOST_PLUGS];
        final int[] served = new int[MOST_PLUGS];

        void goOneTick(World w) {
            for (int s = 0; s < w.siteCount; s++) {
                Site site = w.sites[s];
                fillFreePlugs(w, site);
                turnBackFromFailing(w, site);
                noteTriesThatWentWell(w, site);
                int askers = askAll(w, site);
                if (site.sharesFirst) {
                    shareByComing(w, site);
                } else {
                    shareEvenly(site, askers);
                }
                chargeAll(w, site);
                partAll(w, site);
                for (int i = 0; i < site.queued; i++) {
                    w.cars[site.queue[i]].waited++;
                }
            }
            w.now++;
        }

        private static void fillFreePlugs(World w, Site site) {
            for (int i = 0; i < site.plugCount; i++) {
                int p = site.plugs[i];
                if (w.plugs[p].car == NOBODY) {
                    takeFromQueue(w, site, p);
                }
            }
        }

        private static void takeFromQueue(World w, Site site, int p) {
            for (int i = 0; i < site.queued; i++) {
                int c = site.queue[i];
                Car car = w.cars[c];
                if (car.cable == w.plugs[p].cable && (car.triedPlugs >> p & 1) == 0) {
                    site.removeAt(i);
                    w.plugs[p].car = c;
                    car.where = AT_PLUG + p;
                    car.triedPlugs |= 1 << p;
                    car.pluggedAt = w.now;
                    return;
                }
            }
        }

        private static void turnBackFromFailing(World w, Site site) {
            for (int i = 0; i < site.plugCount; i++) {
                int p = site.plugs[i];
                Plug plug = w.plugs[p];
                int c = plug.car;
                if (c != NOBODY && plug.fails) {
                    w.tries.addTry(p, c, w.now, true);
                    plug.car = NOBODY;
                    w.cars[c].where = IN_QUEUE + plug.site;
                    site.addFirst(c);
                }
            }
        }

        private static void noteTriesThatWentWell(World w, Site site) {
            for (int i = 0; i < site.plugCount; i++) {
                int p = site.plugs[i];
                int c = w.plugs[p].car;
                if (c != NOBODY && w.cars[c].pluggedAt == w.now) {
                    w.tries.addTry(p, c, w.now, false);
                }
            }
        }

        /** Notes what each car at a plug asks for (0: it is at its want): how many ask. */
        private int askAll(World w, Site site) {
            int askers = 0;
            for (int i = 0; i < site.plugCount; i++) {
                int p = site.plugs[i];
                int c = w.plugs[p].car;
                asked[p] = 0;
                served[p] = 0;
                if (c != NOBODY && w.cars[c].charge < w.cars[c].want) {
                    Car car = w.cars[c];
                    asked[p] = Math.min(w.gainOf(car, w.plugs[p].most, car.charge), car.want - car.charge);
                    askers++;
                }
            }
            return askers;
        }

        private void shareEvenly(Site site, int askers) {
            int left = site.power;
            int still = askers;
            for (int i = 0; i < site.plugCount && still > 0; i++) {
                int p = site.plugs[i];
                if (asked[p] > 0) {
                    served[p] = Math.min(asked[p], left / still);
                    left -= served[p];
                    still--;
                }
            }
            // Each round gives a unit at least, or is the last one.
            boolean someGot = true;
            for (int round = 0; round < LARGEST_POWER && left > 0 && someGot; round++) {
                someGot = false;
                for (int i = 0; i < site.plugCount && left > 0; i++) {
                    int p = site.plugs[i];
                    if (served[p] < asked[p]) {
                        served[p]++;
                        left--;
                        someGot = true;
                    }
                }
            }
        }

        private void shareByComing(World w, Site site) {
            int left = site.power;
            for (int i = 0; i < site.plugCount && left > 0; i++) {
                int p = firstUnserved(w, site);
                if (p == NOBODY) {
                    return;
                }
                served[p] = Math.min(asked[p], left);
                left -= served[p];
            }
        }

        /** The plug whose car asks, has got nothing yet, and came there first. */
        private int firstUnserved(World w, Site site) {
            int first = NOBODY;
            int earliest = 0;
            for (int i = 0; i < site.plugCount; i++) {
                int p = site.plugs[i];
                if (asked[p] > 0 && served[p] == 0) {
                    int came = w.cars[w.plugs[p].car].pluggedAt;
                    if (first == NOBODY || came < earliest) {
                        first = p;
                        earliest = came;
                    }
                }
            }
            return first;
        }

        private void chargeAll(World w, Site site) {
            for (int i = 0; i < site.plugCount; i++) {
                int p = site.plugs[i];
                int c = w.plugs[p].car;
                if (c != NOBODY) {
                    Car car = w.cars[c];
                    car.charge += served[p];
                    car.got += served[p];
                    car.pays += served[p] * w.priceNow();
                    site.given += served[p];
                    w.given += served[p];
                }
            }
        }

        private void partAll(World w, Site site) {
            for (int i = 0; i < site.plugCount; i++) {
                int p = site.plugs[i];
                int c = w.plugs[p].car;
                if (c != NOBODY) {
                    leaveOrIdle(w, site, c, asked[p] == 0);
                }
            }
        }

        private static void leaveOrIdle(World w, Site site, int c, boolean wasAtWant) {
            Car car = w.cars[c];
            boolean atCap = 100 * car.charge >= site.cap * car.battery;
            if (atCap && w.isAwaited(site, car.cable)) {
                w.sendAway(c);
            } else if (car.charge >= car.want) {
                if (wasAtWant) {
                    idleOneTick(site, car);
                }
                if (car.idle >= car.stay) {
                    w.sendAway(c);
                }
            }
        }

        private static void idleOneTick(Site site, Car car) {
            car.idle++;
            car.idleInAll++;
            if (car.idle > site.idleAfter) {
                car.pays += site.idlePrice;
            }
        }
    }

    /** Sends cars to sites: all by the same waits, or by waits that grow as cars are sent. */
    private static final class Adviser {
        final int[] told = new int[MOST_SITES];
        final int[] sent = new int[MOST_SITES];
        final int[] goals = new int[MOST_CARS];

        void advise(World w, int n, int a, boolean parts) {
            for (int s = 0; s < MOST_SITES; s++) {
                told[s] = w.sites[s].waitTold;
                sent[s] = 0;
            }
            for (int c = 0; c < n && c < w.carCount; c++) {
                int s = leastTold(w, w.cars[c], a);
                goals[c] = s;
                if (s != NONE) {
                    sent[s]++;
                    if (parts) {
                        told[s] += cutUp(20, w.sites[s].plugCount);
                    }
                }
            }
        }

        int mostAtOneSite() {
            int most = 0;
            for (int s = 0; s < MOST_SITES; s++) {
                most = Math.max(most, sent[s]);
            }
            return most;
        }

        private int leastTold(World w, Car car, int a) {
            int best = NONE;
            for (int s = 0; s < w.siteCount; s++) {
                boolean isBetter = best == NONE || told[s] < told[best];
                if (isBetter && canReach(w, car, a, w.sites[s])) {
                    best = s;
                }
            }
            return best;
        }

        private static boolean canReach(World w, Car car, int a, Site site) {
            return site.km >= a && w.chargeToDrive(car, site.km - a) <= car.charge
                    && w.mostThatServes(site, car.cable) > 0;
        }
    }

    /**
     * Joins two books from the last line of A on: the best score is known for each line and each set
     * of lines of B (as bits) that are taken. A score is 1000 for a pair less its difference (20 at most).
     */
    private static final class Joiner {
        private static final int PAIR_SCORE = 1000;
        private static final int NO_PAIR = -1;

        final int[][] best = new int[MOST_LINES + 1][1 << MOST_LINES];
        final int[][] scores = new int[MOST_LINES][MOST_LINES];
        final int[] partners = new int[MOST_LINES];
        int pairs;
        int differences;

        void join(Book a, Book b, int drift) {
            scorePairs(a, b, drift);
            int sets = 1 << b.count;
            for (int set = 0; set < sets; set++) {
                best[a.count][set] = 0;
            }
            for (int i = a.count - 1; i >= 0; i--) {
                for (int set = 0; set < sets; set++) {
                    best[i][set] = bestFrom(i, set, b.count);
                }
            }
            followBest(a.count, b.count);
        }

        private void scorePairs(Book a, Book b, int drift) {
            for (int i = 0; i < a.count; i++) {
                for (int j = 0; j < b.count; j++) {
                    int difference = Math.abs(a.units[i] - b.units[j]);
                    boolean mayBeOne = a.cars[i] == b.cars[j] && Math.abs(a.ticks[i] - b.ticks[j]) <= 2
                            && difference <= drift;
                    scores[i][j] = mayBeOne ? PAIR_SCORE - difference : NO_PAIR;
                }
            }
        }

        private boolean isFree(int i, int j, int set) {
            return scores[i][j] != NO_PAIR && (set >> j & 1) == 0;
        }

        private int bestFrom(int i, int set, int countB) {
            int most = best[i + 1][set];
            for (int j = 0; j < countB; j++) {
                if (isFree(i, j, set)) {
                    most = Math.max(most, scores[i][j] + best[i + 1][set | 1 << j]);
                }
            }
            return most;
        }

        /** Takes for each line of A the least line of B that still leads to the best score. */
        private void followBest(int countA, int countB) {
            pairs = 0;
            differences = 0;
            int set = 0;
            for (int i = 0; i < countA; i++) {
                partners[i] = NONE;
                for (int j = 0; j < countB && partners[i] == NONE; j++) {
                    if (isFree(i, j, set) && scores[i][j] + best[i + 1][set | 1 << j] == best[i][set]) {
                        partners[i] = j;
                    }
                }
                if (partners[i] != NONE) {
                    pairs++;
                    differences += PAIR_SCORE - scores[i][partners[i]];
                    set |= 1 << partners[i];
                }
            }
        }
    }
}
