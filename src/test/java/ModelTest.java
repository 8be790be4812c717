import java.util.Random;

/** Random runs of calls, the same ones on every machine, on the class and on the model. */
public final class ModelTest {
    private static final String[] TEXTS = {
        "share even;", "share first;", "cap 50;", "cap 0;", "cap 80 ;", "idle 7 after 1;", "idle 9 after 0;", " ", "cap 101;",
        "idle 5", "share", "x", ";", "cap", "20", "after", "even", "0100;", "idle 100 after 2 ;", "first",
    };

    private final Random random;
    private final RoadPlugs real = new RoadPlugs();
    private final Model model = new Model();
    private final Script script;
    private final String run;
    /** Some runs have small batteries and few cables, so that queues and trips become long. */
    private final boolean crowded;

    private ModelTest(long seed, Script script) {
        this.random = new Random(seed);
        this.script = script;
        this.run = "run " + seed + ": ";
        this.crowded = seed % 2 == 0;
    }

    public static void main(String[] args) {
        int runs = args.length > 0 ? Integer.parseInt(args[0]) : 250;
        Script script = new Script();
        for (int seed = 0; seed < runs; seed++) {
            new ModelTest(seed, script).play();
        }
        script.end("ModelTest");
    }

    private void play() {
        int start = crowded ? 25 : 10;
        for (int i = 0; i < start; i++) {
            build();
        }
        for (int i = start; i < 300; i++) {
            callOnce();
        }
        lookAtAll();
    }

    private void due(String call, int got, int want) {
        script.due(run + call, got, want);
    }

    private int upTo(int n) {
        return random.nextInt(n + 1);
    }

    /** Mostly a number from least to greatest, seldom one at its edge or behind it. */
    private int some(int least, int greatest) {
        int kind = random.nextInt(40);
        if (kind == 0) return least - 1;
        if (kind == 1) return greatest + 1;
        if (kind == 2) return least;
        if (kind == 3) return greatest;
        if (kind == 4 && random.nextInt(10) == 0) return random.nextInt();
        return greatest < least ? least : least + random.nextInt(greatest - least + 1);
    }

    private int someSite() {
        return some(0, model.many(1) - 1);
    }

    private int somePlug() {
        return some(0, model.many(2) - 1);
    }

    private int someCar() {
        return some(0, model.many(3) - 1);
    }

    private void build() {
        switch (random.nextInt(4)) {
            case 0 -> {
                int last = model.many(1) == 0 ? 0 : model.siteOf(model.many(1) - 1, 0);
                int km = some(last + 1, Math.min(999, last + 250));
                int power = crowded ? some(1, 40) : some(1, 300);
                due("site " + km + " " + power, real.site(km, power), model.site(km, power));
            }
            case 1, 2 -> {
                int s = someSite();
                int most = crowded ? some(1, 20) : some(1, 150);
                int cable = crowded ? random.nextInt(8) / 7 : some(0, 2);
                due("plug " + s + " " + most + " " + cable, real.plug(s, most, cable), model.plug(s, most, cable));
            }
            default -> {
                int battery = crowded ? some(10, 60) : some(10, 200);
                int use = some(1, 40);
                int rate = crowded ? some(1, 20) : some(1, 150);
                int cable = crowded ? random.nextInt(8) / 7 : some(0, 2);
                int charge = some(0, Math.max(battery, 0) % 1000);
                due("car " + battery + " " + use + " " + rate + " " + cable + " " + charge,
                        real.car(battery, use, rate, cable, charge), model.car(battery, use, rate, cable, charge));
            }
        }
    }

    private void callOnce() {
        switch (random.nextInt(26)) {
            case 0 -> build();
            case 1 -> setSome();
            case 2 -> {
                int c = someCar();
                int n = some(0, 999);
                int what = some(0, 1);
                due("drive " + c + " " + n + " " + what, real.drive(c, n, what), model.drive(c, n, what));
            }
            case 3 -> {
                int c = someCar();
                int p = somePlug();
                int charge = some(0, 60);
                due("gain " + c + " " + p + " " + charge, real.gain(c, p, charge), model.gain(c, p, charge));
            }
            case 4, 5 -> tripOnce();
            case 6, 7 -> readOnce();
            case 8, 9, 10, 11, 12 -> comeOnce();
            case 13 -> {
                int c = someCar();
                due("leave " + c, real.leave(c), model.leave(c));
            }
            case 14 -> {
                int c = someCar();
                int n = some(1, 99);
                due("go " + c + " " + n, real.go(c, n), model.go(c, n));
            }
            case 15 -> {
                int p = somePlug();
                boolean is = random.nextInt(3) == 0;
                due("fail " + p + " " + is, real.fail(p, is), model.fail(p, is));
            }
            case 16, 17, 18 -> {
                int n = random.nextInt(20) == 0 ? some(1, 100) : 1 + upTo(4);
                due("ticks " + n, real.ticks(n), model.ticks(n));
            }
            case 19 -> {
                int p = somePlug();
                boolean works = random.nextBoolean();
                due("says " + p + " " + works, real.says(p, works), model.says(p, works));
                due("lies", real.lies(), model.lies());
            }
            case 20 -> {
                int p = somePlug();
                int c = someCar();
                boolean failed = random.nextBoolean();
                due("tried " + p + " " + c + " " + failed, real.tried(p, c, failed), model.tried(p, c, failed));
            }
            case 21 -> adviceOnce();
            case 22, 23 -> lineOnce();
            case 24 -> keepOrBack();
            default -> lookOnce();
        }
    }

    private void setSome() {
        int which = random.nextInt(4) == 0 ? random.nextInt(60) - 5 : random.nextInt(3) == 0 ? 40 + someSite() : random.nextInt(36);
        int v = random.nextInt(3) == 0 ? some(0, 99) : some(0, 20);
        due("set " + which + " " + v, real.set(which, v), model.set(which, v));
    }

    private void tripOnce() {
        int c = someCar();
        int a = random.nextInt(3) == 0 ? some(0, 998) : upTo(40);
        int b = some(a + 1, 999);
        for (int what = 0; what < 3; what++) {
            due("trip " + c + " " + a + " " + b + " " + what, real.trip(c, a, b, what), model.trip(c, a, b, what));
        }
        for (int s = 0; s < 6; s++) {
            due("trip " + c + " " + a + " " + b + " site " + s, real.trip(c, a, b, 10 + s), model.trip(c, a, b, 10 + s));
        }
    }

    private void readOnce() {
        StringBuilder text = new StringBuilder();
        for (int i = random.nextInt(5); i > 0; i--) {
            text.append(TEXTS[random.nextInt(random.nextInt(3) == 0 ? TEXTS.length : 8)]);
        }
        if (random.nextInt(20) == 0) {
            text.append((char) random.nextInt(256));
        }
        for (int from = 0; from < text.length(); from += 8) {
            int n = Math.min(8, text.length() - from);
            long eight = 0;
            for (int i = n - 1; i >= 0; i--) {
                eight = eight << 8 | text.charAt(from + i);
            }
            due("feed", real.feed(eight, n), model.feed(eight, n));
        }
        if (random.nextInt(10) > 0) {
            int s = someSite();
            due("read " + s + " of " + text, real.read(s), model.read(s));
        }
    }

    private void comeOnce() {
        int c = someCar();
        int s = crowded && random.nextBoolean() ? 0 : someSite();
        int charge = Math.max(model.of(c, 0), 0);
        int want = random.nextInt(6) == 0 ? charge : some(charge, charge + 20);
        int stay = random.nextInt(3) == 0 ? 0 : some(0, 6);
        due("come " + c + " " + s + " " + want + " " + stay, real.come(c, s, want, stay), model.come(c, s, want, stay));
    }

    private void adviceOnce() {
        int n = some(1, model.many(3));
        int a = random.nextBoolean() ? some(0, 999) : upTo(50);
        for (int what = -1; what < 44; what++) {
            due("advice " + n + " " + a + " " + what, real.advice(n, a, what), model.advice(n, a, what));
        }
    }

    private void lineOnce() {
        if (random.nextInt(8) == 0) {
            due("clear", real.clear(), model.clear());
        }
        for (int i = random.nextInt(8); i >= 0; i--) {
            boolean second = random.nextBoolean();
            int car = random.nextInt(20) == 0 ? some(0, 11) : random.nextInt(2);
            int tick = random.nextInt(20) == 0 ? some(0, 2000) : 10 + random.nextInt(5);
            int units = random.nextInt(20) == 0 ? some(0, 200) : 20 + random.nextInt(10);
            due("line " + second + " " + car + " " + tick + " " + units, real.line(second, car, tick, units),
                    model.line(second, car, tick, units));
        }
        for (int what = -1; what < 18; what++) {
            due("joined " + what, real.joined(what), model.joined(what));
        }
    }

    private void keepOrBack() {
        if (random.nextInt(3) == 0) {
            due("keep", real.keep(), model.keep());
        } else if (random.nextBoolean()) {
            due("back", real.back(), model.back());
            lookAtAll();
        }
    }

    private void lookOnce() {
        int c = someCar();
        int s = someSite();
        int p = somePlug();
        int i = some(0, 59);
        int what = some(0, 11);
        due("of " + c + " " + what, real.of(c, what), model.of(c, what));
        due("siteOf " + s + " " + what, real.siteOf(s, what), model.siteOf(s, what));
        due("plugOf " + p + " " + what, real.plugOf(p, what), model.plugOf(p, what));
        due("tryOf " + i + " " + what, real.tryOf(i, what), model.tryOf(i, what));
        due("many " + what, real.many(what), model.many(what));
    }

    private void lookAtAll() {
        for (int what = -1; what < 13; what++) {
            due("many " + what, real.many(what), model.many(what));
            for (int n = -1; n < 17; n++) {
                due("of " + n + " " + what, real.of(n, what), model.of(n, what));
                due("siteOf " + n + " " + what, real.siteOf(n, what), model.siteOf(n, what));
                due("plugOf " + n + " " + what, real.plugOf(n, what), model.plugOf(n, what));
            }
            for (int n = -1; n < 62; n++) {
                due("tryOf " + n + " " + what, real.tryOf(n, what), model.tryOf(n, what));
            }
        }
        due("lies", real.lies(), model.lies());
    }
}
