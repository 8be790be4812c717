import java.util.ArrayList;
import java.util.Arrays;
import java.util.List;
import java.util.TreeMap;
import java.util.function.Consumer;
import java.util.regex.Matcher;
import java.util.regex.Pattern;

/**
 * The document once more, written in another way on purpose: lists, a trip found from its start, books
 * joined by trying all, texts read with patterns, and keep and back by doing all changes again.
 */
final class Model {
    static final int NUMBER = -1;
    static final int FULL = -2;
    static final int NONE = -3;
    static final int STATE = -4;

    record Try(int plug, int car, int tick, boolean failed) { }

    record Line(int car, int tick, int units) { }

    record Rules(boolean first, int cap, int idle, int after) { }

    static final class Site {
        int km;
        int power;
        int wait;
        int given;
        Rules rules = new Rules(false, 100, 0, 100);
        final List<Car> queue = new ArrayList<>();
        final List<Plug> plugs = new ArrayList<>();
    }

    static final class Plug {
        int number;
        Site site;
        int siteNumber;
        int most;
        int cable;
        boolean fails;
        boolean says = true;
        Car car;
    }

    static final class Car {
        int number;
        int battery;
        int use;
        int rate;
        int cable;
        int charge;
        int want;
        int stay;
        Site queueOf;
        Plug plug;
        int came;
        boolean wasAtWant;
        int ask;
        int gets;
        int idleNow;
        int idleAll;
        int got;
        int waited;
        int pays;
        final List<Plug> hasTried = new ArrayList<>();
    }

    static final class State {
        final List<Site> sites = new ArrayList<>();
        final List<Plug> plugs = new ArrayList<>();
        final List<Car> cars = new ArrayList<>();
        final List<Try> tries = new ArrayList<>();
        final List<Line> a = new ArrayList<>();
        final List<Line> b = new ArrayList<>();
        final TreeMap<Integer, Integer> prices = new TreeMap<>();
        int cold;
        int drift;
        int now;
        int given;
    }

    private State st = new State();
    private List<Consumer<State>> log = new ArrayList<>();
    private List<Consumer<State>> keptLog;
    private final StringBuilder tape = new StringBuilder();

    private void change(Consumer<State> op) {
        log.add(op);
        op.accept(st);
    }

    private static boolean in(long v, long from, long to) {
        return from <= v && v <= to;
    }

    private boolean isSite(long s) {
        return in(s, 0, st.sites.size() - 1);
    }

    private boolean isPlug(long p) {
        return in(p, 0, st.plugs.size() - 1);
    }

    private boolean isCar(long c) {
        return in(c, 0, st.cars.size() - 1);
    }

    int site(int km, int power) {
        if (!in(km, 0, 999) || !in(power, 1, 300)) return NUMBER;
        int n = st.sites.size();
        if (n > 0 && st.sites.get(n - 1).km >= km) return STATE;
        if (n == 6) return FULL;
        change(s -> {
            Site site = new Site();
            site.km = km;
            site.power = power;
            s.sites.add(site);
        });
        return n;
    }

    int plug(int site, int most, int cable) {
        if (!isSite(site) || !in(most, 1, 150) || !in(cable, 0, 2)) return NUMBER;
        int n = st.plugs.size();
        if (n == 16) return FULL;
        change(s -> {
            Plug plug = new Plug();
            plug.number = n;
            plug.siteNumber = site;
            plug.site = s.sites.get(site);
            plug.most = most;
            plug.cable = cable;
            s.plugs.add(plug);
            plug.site.plugs.add(plug);
        });
        return n;
    }

    int car(int battery, int use, int rate, int cable, int charge) {
        boolean good = in(battery, 10, 200) && in(use, 1, 40) && in(rate, 1, 150) && in(cable, 0, 2) && in(charge, 0, battery);
        if (!good) return NUMBER;
        int n = st.cars.size();
        if (n == 12) return FULL;
        change(s -> {
            Car car = new Car();
            car.number = n;
            car.battery = battery;
            car.use = use;
            car.rate = rate;
            car.cable = cable;
            car.charge = charge;
            s.cars.add(car);
        });
        return n;
    }

    int set(int which, int v) {
        if (which == 0) {
            if (!in(v, 0, 50)) return NUMBER;
            int was = st.cold;
            change(s -> s.cold = v);
            return was;
        }
        if (which == 1) {
            if (!in(v, 0, 20)) return NUMBER;
            int was = st.drift;
            change(s -> s.drift = v);
            return was;
        }
        if (in(which, 10, 33)) {
            if (!in(v, 0, 99)) return NUMBER;
            int was = st.prices.getOrDefault(which - 10, 10);
            change(s -> s.prices.put(which - 10, v));
            return was;
        }
        if (!isSite(which - 40L) || !in(v, 0, 99)) return NUMBER;
        int was = st.sites.get(which - 40).wait;
        change(s -> s.sites.get(which - 40).wait = v);
        return was;
    }

    private static int up(long a, long b) {
        return (int) (a / b + (a % b == 0 ? 0 : 1));
    }

    private static int driveCharge(State s, Car car, int n) {
        return up((long) n * car.use * (100 + s.cold), 10000);
    }

    private static int gainAt(State s, Car car, Plug plug, int c) {
        int base = Math.min(car.rate, plug.most) * (100 - s.cold) / 100;
        int part = 1;
        if (5 * c >= 4 * car.battery) part = 2;
        if (20 * c >= 19 * car.battery) part = 4;
        int g = base / part;
        if (g < 1) g = 1;
        return Math.min(g, car.battery - c);
    }

    int drive(int car, int n, int what) {
        if (!isCar(car) || !in(n, 0, 999) || !in(what, 0, 1)) return NUMBER;
        return what == 0 ? up(n, 8) : driveCharge(st, st.cars.get(car), n);
    }

    int gain(int car, int plug, int c) {
        if (!isCar(car) || !isPlug(plug) || !in(c, 0, st.cars.get(car).battery)) return NUMBER;
        return gainAt(st, st.cars.get(car), st.plugs.get(plug), c);
    }

    private int where(Car car) {
        if (car.plug != null) return 200 + car.plug.number;
        return car.queueOf != null ? 100 + st.sites.indexOf(car.queueOf) : 0;
    }

    int of(int car, int what) {
        if (!isCar(car) || !in(what, 0, 7)) return NUMBER;
        Car c = st.cars.get(car);
        int place = c.queueOf == null ? NONE : c.queueOf.queue.indexOf(c);
        return new int[] {c.charge, where(c), c.want, c.got, c.waited, c.idleAll, c.pays, place}[what];
    }

    private boolean isBroken(Plug plug) {
        List<Integer> failed = new ArrayList<>();
        for (Try t : st.tries) {
            if (t.plug == plug.number) {
                if (!t.failed) failed.clear();
                else if (!failed.contains(t.car)) failed.add(t.car);
            }
        }
        return failed.size() >= 2;
    }

    private Plug server(Site site, Car car) {
        Plug best = null;
        for (Plug plug : site.plugs) {
            if (plug.cable == car.cable && !isBroken(plug) && (best == null || plug.most > best.most)) best = plug;
        }
        return best;
    }

    /** A trip as far as it is known: its ticks, its stops, and its t at each site so far. */
    record Way(int ticks, int stops, List<Integer> ts) implements Comparable<Way> {
        Way on(int moreTicks, int t) {
            List<Integer> all = new ArrayList<>(ts);
            all.add(t);
            return new Way(ticks + moreTicks, stops + (t > 0 ? 1 : 0), all);
        }

        @Override
        public int compareTo(Way o) {
            if (ticks != o.ticks) return Integer.compare(ticks, o.ticks);
            if (stops != o.stops) return Integer.compare(stops, o.stops);
            return Arrays.compare(ts.stream().mapToInt(i -> i).toArray(), o.ts.stream().mapToInt(i -> i).toArray());
        }
    }

    int trip(int carNumber, int a, int b, int what) {
        if (!isCar(carNumber) || !in(a, 0, 998) || !in(b, a + 1L, 999)) return NUMBER;
        if (!in(what, 0, 2) && !(what >= 10 && isSite(what - 10L))) return NUMBER;
        Car car = st.cars.get(carNumber);
        TreeMap<Integer, Way> ways = new TreeMap<>();
        ways.put(car.charge, new Way(0, 0, List.of()));
        int km = a;
        for (Site site : st.sites) {
            boolean onTheWay = site.km > a && site.km <= b;
            TreeMap<Integer, Way> next = new TreeMap<>();
            if (onTheWay) {
                ways = driven(ways, car, site.km - km);
                km = site.km;
            }
            Plug plug = onTheWay ? server(site, car) : null;
            for (int c : ways.keySet()) {
                Way way = ways.get(c);
                next.merge(c, way.on(0, 0), (x, y) -> x.compareTo(y) <= 0 ? x : y);
                int charge = c;
                for (int t = 1; plug != null && gainAt(st, car, plug, charge) > 0; t++) {
                    charge += gainAt(st, car, plug, charge);
                    next.merge(charge, way.on(site.wait + t, t), (x, y) -> x.compareTo(y) <= 0 ? x : y);
                }
            }
            ways = next;
        }
        ways = driven(ways, car, b - km);
        int best = -1;
        for (int c : ways.keySet()) {
            if (best < 0 || ways.get(c).compareTo(ways.get(best)) < 0) best = c;
        }
        if (best < 0) return NONE;
        Way way = ways.get(best);
        return what == 0 ? way.ticks : what == 1 ? way.stops : what == 2 ? best : way.ts.get(what - 10);
    }

    private TreeMap<Integer, Way> driven(TreeMap<Integer, Way> ways, Car car, int n) {
        TreeMap<Integer, Way> next = new TreeMap<>();
        int need = driveCharge(st, car, n);
        ways.forEach((c, way) -> {
            if (c >= need) next.put(c - need, new Way(way.ticks + up(n, 8), way.stops, way.ts));
        });
        return next;
    }

    int feed(long eight, int n) {
        if (!in(n, 1, 8)) return NUMBER;
        if (tape.length() + n > 100) return FULL;
        long rest = eight;
        for (int i = 0; i < n; i++) {
            tape.append((char) (rest & 0xff));
            rest >>= 8;
        }
        return tape.length();
    }

    int read(int site) {
        String text = tape.toString();
        tape.setLength(0);
        if (!isSite(site)) return NUMBER;
        List<String> tokens = new ArrayList<>();
        List<Integer> starts = new ArrayList<>();
        Matcher m = Pattern.compile("[a-z]+|[0-9]+|[^ ]", Pattern.DOTALL).matcher(text);
        while (m.find()) {
            tokens.add(m.group());
            starts.add(m.start());
        }
        // A text is a row of signs, one for each token, that a pattern of the rules may begin with.
        boolean first = false;
        int cap = -1;
        int idle = -1;
        int after = -1;
        boolean shared = false;
        int rules = 0;
        String awaits = "rule";
        for (int i = 0; i < tokens.size(); i++) {
            String token = tokens.get(i);
            int fault = -100 - starts.get(i);
            boolean isNumber = token.matches("[0-9]{1,3}") && Integer.parseInt(token) <= 100;
            if (awaits.equals("rule")) {
                if (token.equals("share") && !shared) awaits = "kind";
                else if (token.equals("cap") && cap < 0) awaits = "cap";
                else if (token.equals("idle") && idle < 0) awaits = "idle";
                else return fault;
            } else if (awaits.equals("kind")) {
                if (!token.equals("even") && !token.equals("first")) return fault;
                shared = true;
                first = token.equals("first");
                awaits = ";";
            } else if (awaits.equals("after")) {
                if (!token.equals("after")) return fault;
                awaits = "count";
            } else if (awaits.equals(";")) {
                if (!token.equals(";")) return fault;
                rules++;
                awaits = "rule";
            } else {
                if (!isNumber) return fault;
                int n = Integer.parseInt(token);
                if (awaits.equals("cap")) cap = n;
                if (awaits.equals("idle")) idle = n;
                if (awaits.equals("count")) after = n;
                awaits = awaits.equals("idle") ? "after" : ";";
            }
        }
        if (!awaits.equals("rule")) return -100 - text.length();
        Rules read = new Rules(first, cap < 0 ? 100 : cap, idle < 0 ? 0 : idle, after < 0 ? 100 : after);
        change(s -> s.sites.get(site).rules = read);
        return rules;
    }

    int siteOf(int site, int what) {
        if (!isSite(site) || !in(what, 0, 8)) return NUMBER;
        Site s = st.sites.get(site);
        Rules r = s.rules;
        return new int[] {s.km, s.power, r.first ? 1 : 0, r.cap, r.idle, r.after, s.queue.size(), s.wait, s.given}[what];
    }

    int come(int car, int site, int want, int stay) {
        if (!isCar(car) || !isSite(site)) return NUMBER;
        Car c = st.cars.get(car);
        if (!in(want, c.charge, c.battery) || !in(stay, 0, 50)) return NUMBER;
        if (where(c) != 0) return STATE;
        change(s -> {
            Car comer = s.cars.get(car);
            comer.want = want;
            comer.stay = stay;
            comer.idleNow = 0;
            comer.hasTried.clear();
            comer.queueOf = s.sites.get(site);
            comer.queueOf.queue.add(comer);
        });
        return st.sites.get(site).queue.size() - 1;
    }

    private static void away(Car car) {
        if (car.plug != null) car.plug.car = null;
        if (car.queueOf != null) car.queueOf.queue.remove(car);
        car.plug = null;
        car.queueOf = null;
    }

    int leave(int car) {
        if (!isCar(car)) return NUMBER;
        int was = where(st.cars.get(car));
        if (was == 0) return STATE;
        change(s -> away(s.cars.get(car)));
        return was;
    }

    int go(int car, int n) {
        if (!isCar(car) || !in(n, 1, 999)) return NUMBER;
        Car c = st.cars.get(car);
        if (where(c) != 0) return STATE;
        int need = driveCharge(st, c, n);
        if (need > c.charge) return NONE;
        change(s -> s.cars.get(car).charge -= need);
        return c.charge;
    }

    int fail(int plug, boolean is) {
        if (!isPlug(plug)) return NUMBER;
        int isNew = st.plugs.get(plug).fails == is ? 0 : 1;
        change(s -> s.plugs.get(plug).fails = is);
        return isNew;
    }

    int ticks(int n) {
        if (!in(n, 1, 100)) return NUMBER;
        if (st.now + n > 2000) return STATE;
        int before = st.given;
        change(s -> {
            for (int i = 0; i < n; i++) tick(s);
        });
        return st.given - before;
    }

    private static void addTry(State s, Plug plug, Car car, boolean failed) {
        s.tries.add(new Try(plug.number, car.number, s.now, failed));
        if (s.tries.size() > 60) s.tries.remove(0);
    }

    private static void tick(State s) {
        for (Site site : s.sites) tickSite(s, site);
        for (Car car : s.cars) {
            if (car.queueOf != null) car.waited++;
        }
        s.now++;
    }

    private static void tickSite(State s, Site site) {
        for (Plug plug : site.plugs) {
            if (plug.car == null) {
                Car taken = site.queue.stream().filter(c -> c.cable == plug.cable && !c.hasTried.contains(plug))
                        .findFirst().orElse(null);
                if (taken != null) {
                    site.queue.remove(taken);
                    taken.queueOf = null;
                    taken.plug = plug;
                    taken.came = s.now;
                    plug.car = taken;
                }
            }
        }
        for (Plug plug : site.plugs) {
            Car car = plug.car;
            if (car != null && plug.fails) {
                addTry(s, plug, car, true);
                away(car);
                car.hasTried.add(plug);
                car.queueOf = site;
                site.queue.add(0, car);
            }
        }
        List<Car> asking = new ArrayList<>();
        for (Plug plug : site.plugs) {
            Car car = plug.car;
            if (car == null) continue;
            if (car.came == s.now) addTry(s, plug, car, false);
            car.wasAtWant = car.charge == car.want;
            car.gets = 0;
            car.ask = Math.min(gainAt(s, car, plug, car.charge), car.want - car.charge);
            if (!car.wasAtWant) asking.add(car);
        }
        int left = site.power;
        if (site.rules.first) {
            asking.sort((x, y) -> x.came != y.came ? x.came - y.came : x.plug.number - y.plug.number);
            for (Car car : asking) {
                car.gets = Math.min(car.ask, left);
                left -= car.gets;
            }
        } else {
            for (int i = 0; i < asking.size(); i++) {
                Car car = asking.get(i);
                car.gets = Math.min(car.ask, left / (asking.size() - i));
                left -= car.gets;
            }
            List<Car> more = new ArrayList<>(asking);
            more.removeIf(c -> c.gets == c.ask);
            while (left > 0 && !more.isEmpty()) {
                Car car = more.remove(0);
                car.gets++;
                left--;
                if (car.gets < car.ask) more.add(car);
            }
        }
        for (Car car : asking) {
            car.charge += car.gets;
            car.got += car.gets;
            car.pays += car.gets * s.prices.getOrDefault(s.now / 12 % 24, 10);
            site.given += car.gets;
            s.given += car.gets;
        }
        for (Plug plug : site.plugs) {
            Car car = plug.car;
            if (car == null) continue;
            boolean awaited = site.queue.stream().anyMatch(c -> c.cable == car.cable);
            if (awaited && car.charge * 100 >= site.rules.cap * car.battery) {
                away(car);
                continue;
            }
            if (car.charge < car.want) continue;
            if (car.wasAtWant) {
                car.idleNow++;
                car.idleAll++;
                if (car.idleNow > site.rules.after) car.pays += site.rules.idle;
            }
            if (car.idleNow >= car.stay) away(car);
        }
    }

    int plugOf(int plug, int what) {
        if (!isPlug(plug) || !in(what, 0, 6)) return NUMBER;
        Plug p = st.plugs.get(plug);
        int tries = (int) st.tries.stream().filter(t -> t.plug == plug).count();
        return new int[] {p.siteNumber, p.most, p.cable, p.car == null ? NONE : p.car.number, isBroken(p) ? 1 : 0,
            p.says ? 1 : 0, tries}[what];
    }

    int says(int plug, boolean works) {
        if (!isPlug(plug)) return NUMBER;
        int isNew = st.plugs.get(plug).says == works ? 0 : 1;
        change(s -> s.plugs.get(plug).says = works);
        return isNew;
    }

    int tried(int plug, int car, boolean failed) {
        if (!isPlug(plug) || !isCar(car)) return NUMBER;
        change(s -> addTry(s, s.plugs.get(plug), s.cars.get(car), failed));
        return st.tries.size();
    }

    int tryOf(int i, int what) {
        if (!in(what, 0, 3)) return NUMBER;
        if (!in(i, 0, st.tries.size() - 1)) return NONE;
        Try t = st.tries.get(i);
        return new int[] {t.plug, t.car, t.tick, t.failed ? 1 : 0}[what];
    }

    int lies() {
        int bits = 0;
        for (Plug plug : st.plugs) {
            Boolean wentWell = null;
            for (Try t : st.tries) {
                if (t.plug == plug.number) wentWell = !t.failed;
            }
            if (plug.says && isBroken(plug) || !plug.says && wentWell != null && wentWell) bits += 1 << plug.number;
        }
        return bits;
    }

    int advice(int n, int a, int what) {
        if (!in(n, 1, st.cars.size()) || !in(a, 0, 999)) return NUMBER;
        if (!in(what, 0, 1) && !in(what, 10, 9L + n) && !in(what, 30, 29L + n)) return NUMBER;
        boolean parted = what == 1 || what >= 30;
        int[] told = st.sites.stream().mapToInt(s -> s.wait).toArray();
        int[] goal = new int[n];
        int[] goers = new int[st.sites.size()];
        for (int c = 0; c < n; c++) {
            Car car = st.cars.get(c);
            goal[c] = NONE;
            for (int s = st.sites.size() - 1; s >= 0; s--) {
                Site site = st.sites.get(s);
                boolean reach = site.km >= a && driveCharge(st, car, site.km - a) <= car.charge && server(site, car) != null;
                if (reach && (goal[c] == NONE || told[s] <= told[goal[c]])) goal[c] = s;
            }
            if (goal[c] != NONE) {
                goers[goal[c]]++;
                if (parted) told[goal[c]] += up(20, st.sites.get(goal[c]).plugs.size());
            }
        }
        if (what <= 1) return Arrays.stream(goers).max().orElse(0);
        return goal[parted ? what - 30 : what - 10];
    }

    int line(boolean second, int car, int tick, int units) {
        if (!in(car, 0, 11) || !in(tick, 0, 2000) || !in(units, 0, 200)) return NUMBER;
        List<Line> book = second ? st.b : st.a;
        if (book.size() == 7) return FULL;
        change(s -> (second ? s.b : s.a).add(new Line(car, tick, units)));
        return (second ? st.b : st.a).size() - 1;
    }

    int joined(int what) {
        if (!in(what, 0, 1) && !in(what, 10, 9L + st.a.size())) return NUMBER;
        int[] best = new int[9];
        best[0] = -1;
        joinFrom(0, new int[9], best);
        if (what <= 1) return best[what];
        return best[what - 8] == 7 ? NONE : best[what - 8];
    }

    /** Rows: pairs, differences, and the partner of each line of A (7: none). */
    private void joinFrom(int i, int[] row, int[] best) {
        if (i == st.a.size()) {
            boolean better = row[0] > best[0] || row[0] == best[0] && row[1] < best[1]
                    || row[0] == best[0] && row[1] == best[1] && Arrays.compare(row, 2, 2 + i, best, 2, 2 + i) < 0;
            if (better) System.arraycopy(row, 0, best, 0, 9);
            return;
        }
        row[2 + i] = 7;
        joinFrom(i + 1, row, best);
        Line x = st.a.get(i);
        for (int j = 0; j < st.b.size(); j++) {
            Line y = st.b.get(j);
            int difference = Math.abs(x.units - y.units);
            boolean taken = false;
            for (int k = 0; k < i; k++) taken |= row[2 + k] == j;
            if (!taken && x.car == y.car && Math.abs(x.tick - y.tick) <= 2 && difference <= st.drift) {
                row[2 + i] = j;
                row[0]++;
                row[1] += difference;
                joinFrom(i + 1, row, best);
                row[0]--;
                row[1] -= difference;
            }
        }
    }

    int clear() {
        int were = st.a.size() + st.b.size();
        change(s -> {
            s.a.clear();
            s.b.clear();
        });
        return were;
    }

    int many(int what) {
        if (!in(what, 0, 11)) return NUMBER;
        int queued = (int) st.cars.stream().filter(c -> c.queueOf != null).count();
        int plugged = (int) st.cars.stream().filter(c -> c.plug != null).count();
        int paid = st.cars.stream().mapToInt(c -> c.pays).sum();
        return new int[] {st.now, st.sites.size(), st.plugs.size(), st.cars.size(), queued, plugged, st.tries.size(),
            st.a.size(), st.b.size(), tape.length(), st.given, paid}[what];
    }

    int keep() {
        keptLog = new ArrayList<>(log);
        return 1;
    }

    int back() {
        if (keptLog == null) return NONE;
        log = new ArrayList<>(keptLog);
        st = new State();
        for (Consumer<State> op : log) op.accept(st);
        return 1;
    }
}
