import java.math.BigInteger;
import java.util.ArrayDeque;
import java.util.ArrayList;
import java.util.Arrays;
import java.util.HashMap;
import java.util.List;
import java.util.Map;

/**
 * The document once more, without regard to speed and room, to hold GasVoyages against:
 * PLANS by all numbers to the base 3, WAYS from the end backwards, steps of CHASERS outwards from each.
 */
final class SlowVoyages {
    private static final class Fl {
        int x, y, level = 1, tick, load, gas, ballast, gone;
        int x0, y0, tick0;
        boolean landed;
        List<int[]> log = new ArrayList<>();
        List<Boolean> lost = new ArrayList<>();

        Fl copy() {
            Fl f = new Fl();
            f.x = x;
            f.y = y;
            f.level = level;
            f.tick = tick;
            f.load = load;
            f.gas = gas;
            f.ballast = ballast;
            f.landed = landed;
            return f;
        }

        void note() {
            log.add(new int[] {x, y, level});
            lost.add(false);
        }
    }

    private int w = 12, h = 12;
    private int[][] kind = new int[12][12];
    private final int[] density = {14, 13, 12, 11, 10, 9, 8, 7};
    private final int[] fullness = {500, 500, 500, 500, 500, 500, 500, 500};
    private final int[] warm = new int[24];
    private final int[][][] real = new int[8][24][2];
    private final int[][][] forecast = new int[8][24][2];
    private final List<Fl> flights = new ArrayList<>();
    private final List<int[]> chasers = new ArrayList<>();
    private int[] planned = {};

    private static boolean in(int v, int a, int b) {
        return a <= v && v <= b;
    }

    private boolean on(int x, int y) {
        return in(x, 0, w - 1) && in(y, 0, h - 1);
    }

    private boolean isFl(int f) {
        return in(f, 0, flights.size() - 1);
    }

    int land(int nw, int nh) {
        if (!in(nw, 4, 24) || !in(nh, 4, 24)) return -2;
        w = nw;
        h = nh;
        kind = new int[w][h];
        flights.clear();
        chasers.clear();
        return 1;
    }

    int cell(int x, int y, int k) {
        if (!on(x, y) || !in(k, 0, 2)) return -2;
        for (int[] c : chasers) if (k == 1 && c[0] == x && c[1] == y) return -3;
        int was = kind[x][y];
        kind[x][y] = k;
        return was;
    }

    int level(int l, int d, int f) {
        if (!in(l, 0, 7) || !in(d, 0, 50) || !in(f, 0, 500)) return -2;
        density[l] = d;
        fullness[l] = f;
        return 1;
    }

    int warmth(int hour, int v) {
        if (!in(hour, 0, 23) || !in(v, -20, 20)) return -1000;
        int was = warm[hour];
        warm[hour] = v;
        return was;
    }

    int wind(boolean isReal, int l, int from, int to, int dx, int dy) {
        if (!in(l, 1, 7) || !in(from, 0, 23) || !in(to, 0, 23) || to < from) return -2;
        if (!in(dx, -2, 2) || !in(dy, -2, 2)) return -2;
        for (int t = from; t <= to; t++) (isReal ? real : forecast)[l][t] = new int[] {dx, dy};
        return 1;
    }

    int fly(int x, int y, int tick, int load, int gas, int ballast) {
        if (!on(x, y) || !in(tick, 0, 23) || !in(load, 1, 200) || !in(gas, 0, 500) || !in(ballast, 0, 200)) return -2;
        if (kind[x][y] == 2) return -3;
        if (flights.size() == 8) return -4;
        Fl f = new Fl();
        f.x = f.x0 = x;
        f.y = f.y0 = y;
        f.tick = f.tick0 = tick;
        f.load = load;
        f.gas = gas;
        f.ballast = ballast;
        f.note();
        flights.add(f);
        return flights.size() - 1;
    }

    private int lift(Fl f) {
        return f.gas * (density[f.level] + warm[f.tick % 24]);
    }

    private int weight(Fl f) {
        return 10 * (f.load + f.ballast);
    }

    private int[] blown(int x, int y, int[] wind) {
        return on(x + wind[0], y + wind[1]) ? new int[] {x + wind[0], y + wind[1]} : new int[] {x, y};
    }

    private void tick(Fl f, int order, int dose, int[][][] winds) {
        if (order == 1) f.ballast = Math.max(0, f.ballast - dose);
        if (order == 2) f.gas = Math.max(0, f.gas - dose);
        int up = Integer.signum(lift(f) - weight(f));
        f.level = Math.min(7, f.level + up);
        if (f.gas > fullness[f.level]) {
            f.gone += f.gas - fullness[f.level];
            f.gas = fullness[f.level];
        }
        if (f.level == 0) {
            f.landed = true;
        } else {
            int[] to = blown(f.x, f.y, winds[f.level][f.tick % 24]);
            f.x = to[0];
            f.y = to[1];
        }
        f.tick++;
    }

    int go(int flight, int order, int dose, int n) {
        if (!isFl(flight) || !in(order, 0, 2) || !in(dose, 1, 50) || !in(n, 1, 12)) return -2;
        Fl f = flights.get(flight);
        if (f.landed) return -3;
        if (f.log.size() + n > 60) return -4;
        for (int i = 0; i < n; i++) {
            if (f.landed) return i;
            tick(f, order, dose, real);
            f.note();
        }
        return n;
    }

    int about(int flight, int what) {
        if (!isFl(flight) || !in(what, 0, 9)) return -100000;
        Fl f = flights.get(flight);
        int[] all = {f.x, f.y, f.level, f.gas, f.ballast, f.tick, f.landed ? 1 : 0, f.log.size(), lift(f) - weight(f), f.gone};
        return all[what];
    }

    private static int square(int x, int y, int x0, int y0) {
        return (x - x0) * (x - x0) + (y - y0) * (y - y0);
    }

    int distance(int flight) {
        if (!isFl(flight)) return -2;
        Fl f = flights.get(flight);
        return (int) Math.floor(Math.sqrt(10000.0 * square(f.x, f.y, f.x0, f.y0)) + 1e-9);
    }

    int plan(int flight, int n, int dose, int x, int y) {
        if (!isFl(flight) || !in(n, 1, 6) || !in(dose, 1, 50) || !on(x, y)) return -2;
        if (flights.get(flight).landed) return -3;
        return best(flights.get(flight), n, dose, x, y, 1);
    }

    int away(int flight, int n, int dose) {
        if (!isFl(flight) || !in(n, 1, 6) || !in(dose, 1, 50)) return -2;
        Fl f = flights.get(flight);
        if (f.landed) return -3;
        return best(f, n, dose, f.x0, f.y0, -1);
    }

    private int best(Fl from, int n, int dose, int x, int y, int sign) {
        int found = -1;
        int rows = (int) Math.round(Math.pow(3, n));
        for (int number = 0; number < rows; number++) {
            int[] row = new int[n];
            int rest = number;
            for (int i = n - 1; i >= 0; i--) {
                row[i] = rest % 3;
                rest /= 3;
            }
            int got = tried(from.copy(), row, dose, x, y);
            if (got >= 0 && (found < 0 || sign * got < sign * found)) {
                found = got;
                planned = row;
            }
        }
        return found;
    }

    private int tried(Fl f, int[] row, int dose, int x, int y) {
        for (int order : row) {
            if (f.landed) {
                if (order != 0) return -1;
                continue;
            }
            tick(f, order, dose, forecast);
            if (kind[f.x][f.y] == 2 || f.landed && kind[f.x][f.y] == 1) return -1;
        }
        return square(f.x, f.y, x, y);
    }

    int order(int i) {
        return in(i, 0, planned.length - 1) ? planned[i] : -1;
    }

    int entry(int flight, int i, int what) {
        if (!isFl(flight) || !in(what, 0, 2)) return -2;
        Fl f = flights.get(flight);
        return in(i, 0, f.log.size() - 1) && !f.lost.get(i) ? f.log.get(i)[what] : -1;
    }

    int lose(int flight, int from, int to) {
        if (!isFl(flight) || from < 1 || to < from) return -2;
        Fl f = flights.get(flight);
        int n = 0;
        for (int i = 1; i < f.log.size(); i++) {
            if (in(i, from, to) && !f.lost.set(i, true)) n++;
        }
        return n;
    }

    /** WAYS from entry i on: those that are not BROKEN, and all. */
    private BigInteger[] waysFrom(Fl f, int i, int x, int y, int l, Map<Integer, BigInteger[]> known) {
        boolean last = i == f.log.size() - 1;
        boolean told = !f.lost.get(i) && !Arrays.equals(f.log.get(i), new int[] {x, y, l});
        if (told || l == 0 && !last) return new BigInteger[] {BigInteger.ZERO, BigInteger.ZERO};
        int key = ((i * 24 + x) * 24 + y) * 8 + l;
        if (known.containsKey(key)) return known.get(key);
        BigInteger start = last ? BigInteger.ONE : BigInteger.ZERO;
        BigInteger[] sum = {start, start};
        for (int nl = Math.max(0, l - 1); !last && nl <= Math.min(7, l + 1); nl++) {
            int[] to = nl == 0 ? new int[] {x, y} : blown(x, y, real[nl][(f.tick0 + i) % 24]);
            BigInteger[] more = waysFrom(f, i + 1, to[0], to[1], nl, known);
            sum[0] = sum[0].add(more[0]);
            sum[1] = sum[1].add(more[1]);
        }
        if (kind[x][y] == 2) sum[0] = BigInteger.ZERO;
        known.put(key, sum);
        return sum;
    }

    /** All WAYS, those that are not BROKEN, those that are. */
    private BigInteger[] waysOf(Fl f) {
        BigInteger[] some = waysFrom(f, 0, f.x0, f.y0, 1, new HashMap<>());
        return new BigInteger[] {some[1], some[0], some[1].subtract(some[0])};
    }

    int judge(int flight) {
        if (!isFl(flight)) return -2;
        BigInteger[] some = waysOf(flights.get(flight));
        if (some[0].signum() == 0) return 1;
        return some[2].signum() == 0 ? 0 : some[1].signum() == 0 ? 2 : 1;
    }

    int ways(int flight, boolean broken) {
        if (!isFl(flight)) return -2;
        return waysOf(flights.get(flight))[broken ? 2 : 0].min(BigInteger.valueOf(1000000)).intValue();
    }

    int chaser(int x, int y, int pace) {
        if (!on(x, y) || !in(pace, 1, 5)) return -2;
        if (kind[x][y] == 1) return -3;
        if (chasers.size() == 4) return -4;
        chasers.add(new int[] {x, y, pace});
        return chasers.size() - 1;
    }

    int chase(int chaser, int x, int y) {
        if (!in(chaser, 0, chasers.size() - 1) || !on(x, y)) return -2;
        int[] c = chasers.get(chaser);
        int[][] steps = new int[w][h];
        for (int[] column : steps) Arrays.fill(column, -1);
        ArrayDeque<int[]> open = new ArrayDeque<>();
        open.add(new int[] {c[0], c[1]});
        steps[c[0]][c[1]] = 0;
        while (!open.isEmpty()) {
            int[] at = open.remove();
            int[][] besides = {{at[0] + 1, at[1]}, {at[0] - 1, at[1]}, {at[0], at[1] + 1}, {at[0], at[1] - 1}};
            for (int[] b : besides) {
                if (on(b[0], b[1]) && kind[b[0]][b[1]] != 1 && steps[b[0]][b[1]] < 0) {
                    steps[b[0]][b[1]] = steps[at[0]][at[1]] + 1;
                    open.add(b);
                }
            }
        }
        return steps[x][y] < 0 ? -1 : (int) Math.ceil(steps[x][y] / (double) c[2]);
    }

    int first(int flight) {
        if (!isFl(flight)) return -2;
        int best = -1;
        for (int c = chasers.size() - 1; c >= 0; c--) {
            int t = chase(c, flights.get(flight).x, flights.get(flight).y);
            if (t >= 0 && (best < 0 || t <= chase(best, flights.get(flight).x, flights.get(flight).y))) best = c;
        }
        return best;
    }

    int record(int k) {
        if (k < 0) return -2;
        List<Integer> good = new ArrayList<>();
        for (int i = 0; i < flights.size(); i++) {
            if (flights.get(i).landed && judge(i) == 0) good.add(i);
        }
        good.sort((a, b) -> distance(a) != distance(b) ? distance(b) - distance(a)
            : flights.get(a).tick - flights.get(a).tick0 - flights.get(b).tick + flights.get(b).tick0);
        return k < good.size() ? good.get(k) : -1;
    }

    int count(int what) {
        int n = 0;
        switch (what) {
            case 0: return w;
            case 1: return h;
            case 2: return flights.size();
            case 3:
                for (Fl f : flights) if (!f.landed) n++;
                return n;
            case 4: return chasers.size();
            case 5:
                for (int[] column : kind) for (int k : column) if (k == 2) n++;
                return n;
            case 6:
                for (Fl f : flights) for (boolean l : f.lost) if (l) n++;
                return n;
            default: return -2;
        }
    }

    long digest() {
        List<Integer> all = new ArrayList<>();
        for (int i = 0; i < 7; i++) all.add(count(i));
        for (int f = 0; f < flights.size(); f++) {
            for (int i = 0; i < 10; i++) all.add(about(f, i));
            for (int e = 0; e < flights.get(f).log.size(); e++) {
                for (int i = 0; i < 3; i++) all.add(entry(f, e, i));
            }
        }
        for (int[] c : chasers) {
            all.add(c[0]);
            all.add(c[1]);
        }
        long d = 163;
        for (int v : all) d = 31 * d + v;
        return d;
    }
}
