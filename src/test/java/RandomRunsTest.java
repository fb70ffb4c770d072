import java.util.Random;

/** All promises: runs of calls by fixed seeds, every answer held against that of SlowVoyages. */
public final class RandomRunsTest {
    private static final int RUNS = 400, STEPS = 256;
    private static final int[] ODD = {-1, -2, 24, 25, 60, 61, 500, 501, -1000, Integer.MAX_VALUE, Integer.MIN_VALUE};
    // How often each call comes: the order of the document's face.
    private static final int[] OFTEN = {0, 8, 3, 4, 14, 10, 26, 3, 3, 7, 5, 4, 4, 6, 10, 12, 3, 4, 3, 4, 3};

    private final Check check;
    private final Random random;
    private final GasVoyages v = new GasVoyages();
    private final SlowVoyages s = new SlowVoyages();
    private final int[] answers = new int[OFTEN.length];
    private String run;
    private int w = 12, h = 12;

    private RandomRunsTest(Check check, long seed) {
        this.check = check;
        this.random = new Random(seed);
        this.run = "seed " + seed;
    }

    public static void main(String[] args) {
        Check check = new Check();
        int[] useful = new int[OFTEN.length];
        for (int seed = 0; seed < RUNS; seed++) {
            RandomRunsTest test = new RandomRunsTest(check, seed);
            test.play();
            for (int i = 0; i < useful.length; i++) {
                useful[i] += test.answers[i];
            }
        }
        for (int i = 0; i < useful.length; i++) {
            check.holds("call " + i + " was often not refused: " + useful[i], useful[i] > RUNS / 4);
        }
        check.end("RandomRunsTest");
    }

    /** Mostly from least to most, now and then beside them or far off. */
    private int some(int least, int most) {
        if (random.nextInt(60) == 0) {
            return random.nextBoolean() ? least - 1 : most + 1;
        }
        if (random.nextInt(200) == 0) {
            return ODD[random.nextInt(ODD.length)];
        }
        return least + random.nextInt(most - least + 1);
    }

    private int someFlight() {
        return some(0, Math.max(0, v.count(2) - 1));
    }

    private void play() {
        resize();
        for (int i = 0; i < 7; i++) {
            blow();
        }
        // The digests and the numbers looked up count as calls, too; this program answers beyond 512 all the same.
        for (int i = 0; i < STEPS; i++) {
            step(pick());
            check.due(run + ", digest", v.digest(), s.digest());
        }
    }

    private int pick() {
        if (random.nextInt(90) == 0) {
            return 0;
        }
        int sum = 0;
        for (int o : OFTEN) {
            sum += o;
        }
        int at = random.nextInt(sum);
        for (int i = 0; i < OFTEN.length; i++) {
            at -= OFTEN[i];
            if (at < 0) {
                return i;
            }
        }
        return 1;
    }

    private void due(int call, String name, int got, int want) {
        if (got > -2) {
            answers[call]++;
        }
        check.due(run + ", " + name, got, want);
    }

    private void step(int call) {
        if (call < 5) {
            stepLand(call);
        } else if (call < 11) {
            stepFlight(call);
        } else if (call < 15) {
            stepLog(call);
        } else {
            stepChaser(call);
        }
    }

    private void resize() {
        boolean small = random.nextInt(3) > 0;
        int a = small ? some(4, 8) : some(4, 24);
        int b = small ? some(4, 8) : some(4, 24);
        due(0, "land(" + a + ", " + b + ")", v.land(a, b), s.land(a, b));
        w = v.count(0);
        h = v.count(1);
    }

    private void blow() {
        boolean real = random.nextBoolean();
        int l = some(1, random.nextBoolean() ? 3 : 7);
        int from = some(0, 23);
        int to = random.nextInt(3) == 0 ? some(0, 23) : 23;
        int dx = random.nextBoolean() ? some(-1, 1) : some(-2, 2);
        int dy = random.nextBoolean() ? some(-1, 1) : some(-2, 2);
        due(4, "wind", v.wind(real, l, from, to, dx, dy), s.wind(real, l, from, to, dx, dy));
    }

    private void stepLand(int call) {
        int x = some(0, w - 1);
        int y = some(0, h - 1);
        int k = some(0, 2);
        int l = some(0, 7);
        int d = random.nextInt(4) > 0 ? some(10, 14) : some(0, 50);
        int f = random.nextBoolean() ? some(0, 60) : some(0, 500);
        int hour = some(0, 23);
        int warm = random.nextBoolean() ? some(-2, 2) : some(-20, 20);
        switch (call) {
            case 0: resize(); break;
            case 1: due(call, "cell(" + x + ", " + y + ", " + k + ")", v.cell(x, y, k), s.cell(x, y, k)); break;
            case 2: due(call, "level(" + l + ", " + d + ", " + f + ")", v.level(l, d, f), s.level(l, d, f)); break;
            case 3: due(call, "warmth(" + hour + ", " + warm + ")", v.warmth(hour, warm), s.warmth(hour, warm)); break;
            default: blow();
        }
    }

    private void begin() {
        int gas = random.nextBoolean() ? some(5, 40) : some(0, 500);
        int load = random.nextInt(4) == 0 ? some(1, 200) : Math.max(1, Math.min(200, gas + some(-2, 8)));
        int ballast = random.nextBoolean() ? some(0, 8) : some(0, 200);
        int x = some(0, w - 1);
        int y = some(0, h - 1);
        int tick = some(0, 23);
        due(5, "fly(" + x + ", " + y + ", " + tick + ", " + load + ", " + gas + ", " + ballast + ")",
            v.fly(x, y, tick, load, gas, ballast), s.fly(x, y, tick, load, gas, ballast));
    }

    private void stepFlight(int call) {
        int f = someFlight();
        int order = some(0, 2);
        int dose = random.nextInt(3) > 0 ? some(1, 4) : some(1, 50);
        int n = random.nextBoolean() ? some(1, 4) : some(1, 12);
        int planned = some(1, 6);
        int x = some(0, w - 1);
        int y = some(0, h - 1);
        int what = some(0, 9);
        String numbers = "(" + f + ", " + planned + ", " + dose;
        switch (call) {
            case 5: begin(); break;
            case 6: due(call, "go(" + f + ", " + order + ", " + dose + ", " + n + ")", v.go(f, order, dose, n), s.go(f, order, dose, n)); break;
            case 7: due(call, "about(" + f + ", " + what + ")", v.about(f, what), s.about(f, what)); break;
            case 8: due(call, "distance(" + f + ")", v.distance(f), s.distance(f)); break;
            case 9: due(call, "plan" + numbers + ", " + x + ", " + y + ")", v.plan(f, planned, dose, x, y), s.plan(f, planned, dose, x, y)); break;
            default: due(call, "away" + numbers + ")", v.away(f, planned, dose), s.away(f, planned, dose));
        }
        for (int i = -1; i <= 6; i++) {
            check.due(run + ", order(" + i + ")", v.order(i), s.order(i));
        }
    }

    private void stepLog(int call) {
        int f = someFlight();
        int last = Math.max(1, v.about(f, 7) - 1);
        int i = some(0, last);
        int what = some(0, 2);
        int from = some(1, last);
        int to = random.nextBoolean() ? from : some(1, last);
        switch (call) {
            case 11: due(call, "order(" + i + ")", v.order(i), s.order(i)); break;
            case 12: due(call, "entry(" + f + ", " + i + ", " + what + ")", v.entry(f, i, what), s.entry(f, i, what)); break;
            case 13: due(call, "lose(" + f + ", " + from + ", " + to + ")", v.lose(f, from, to), s.lose(f, from, to)); break;
            default: due(call, "judge(" + f + ")", v.judge(f), s.judge(f));
        }
    }

    private void stepChaser(int call) {
        int f = someFlight();
        boolean broken = random.nextBoolean();
        int x = some(0, w - 1);
        int y = some(0, h - 1);
        int pace = some(1, 5);
        int c = some(0, Math.max(0, v.count(4) - 1));
        int k = some(0, 2);
        int what = some(0, 6);
        switch (call) {
            case 15: due(call, "ways(" + f + ", " + broken + ")", v.ways(f, broken), s.ways(f, broken)); break;
            case 16: due(call, "chaser(" + x + ", " + y + ", " + pace + ")", v.chaser(x, y, pace), s.chaser(x, y, pace)); break;
            case 17: due(call, "chase(" + c + ", " + x + ", " + y + ")", v.chase(c, x, y), s.chase(c, x, y)); break;
            case 18: due(call, "first(" + f + ")", v.first(f), s.first(f)); break;
            case 19: due(call, "record(" + k + ")", v.record(k), s.record(k)); break;
            default: due(call, "count(" + what + ")", v.count(what), s.count(what));
        }
    }
}
