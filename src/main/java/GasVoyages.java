import java.util.Arrays;

/** Voyages by gas, as ../shared/DOC.md tells them; the words in capitals are the document's. */
public final class GasVoyages {
    public static final int NONE = -1, BAD = -2, NO = -3, FULL = -4;

    private static final int BAD_WARMTH = -1000, BAD_ABOUT = -100000;

    private static final int PLAIN = 0, WATER = 1, CLOSED = 2;

    private static final int LEAST_SIDE = 4, SIDE = 24, FIRST_SIDE = 12;
    private static final int CELLS = SIDE * SIDE;

    private static final int HOURS = 24, LEVELS = 8, TOP = LEVELS - 1;
    private static final int GROUND_DENSITY = 14, MOST_DENSITY = 50;
    private static final int MOST_GAS = 500, MOST_BALLAST = 200, MOST_LOAD = 200;
    private static final int MOST_WARMTH = 20, MOST_WIND = 2;

    private static final int MOST_FLIGHTS = 8, MOST_ENTRIES = 60, MOST_TICKS = 12;
    private static final int MOST_DOSE = 50, DROP = 1, VENT = 2, ORDERS = 3;
    private static final int MOST_PLANNED = 6;

    private static final int CLEAR = 0, DOUBT = 1, BREACH = 2;
    private static final int MOST_WAYS = 1000000;

    private static final int MOST_CHASERS = 4, MOST_PACE = 5;

    // A PLACE is a CELL and a LEVEL in one number, as entries and WAYS hold them.
    private static final int PLACES = CELLS * LEVELS;

    private static final int[] SIDE_X = {1, -1, 0, 0};
    private static final int[] SIDE_Y = {0, 0, 1, -1};

    private final Land ground = new Land();
    private final Air air = new Air();
    private final Flight[] flights = new Flight[MOST_FLIGHTS];
    private final boolean[] ranked = new boolean[MOST_FLIGHTS];
    private int flightCount = 0;
    private final Planner planner = new Planner(ground, air);
    private final WayCounter wayCounter = new WayCounter(ground, air.real);
    private final Chasers chasers = new Chasers(ground);

    public GasVoyages() {
        for (int i = 0; i < MOST_FLIGHTS; i++) {
            flights[i] = new Flight();
        }
    }

    // ---- land and air

    public int land(int w, int h) {
        if (!within(w, LEAST_SIDE, SIDE) || !within(h, LEAST_SIDE, SIDE)) {
            return BAD;
        }
        ground.clear(w, h);
        flightCount = 0;
        chasers.number = 0;
        return 1;
    }

    public int cell(int x, int y, int kind) {
        if (!ground.has(x, y) || !within(kind, PLAIN, CLOSED)) {
            return BAD;
        }
        int at = cellOf(x, y);
        if (kind == WATER && chasers.standOn(at)) {
            return NO;
        }
        int was = ground.kinds[at];
        ground.kinds[at] = kind;
        return was;
    }

    public int level(int l, int density, int fullness) {
        if (!within(l, 0, TOP) || !within(density, 0, MOST_DENSITY) || !within(fullness, 0, MOST_GAS)) {
            return BAD;
        }
        air.density[l] = density;
        air.fullness[l] = fullness;
        return 1;
    }

    public int warmth(int hour, int v) {
        if (!within(hour, 0, HOURS - 1) || !within(v, -MOST_WARMTH, MOST_WARMTH)) {
            return BAD_WARMTH;
        }
        int was = air.warmth[hour];
        air.warmth[hour] = v;
        return was;
    }

    public int wind(boolean real, int level, int from, int to, int dx, int dy) {
        if (!within(level, 1, TOP) || !within(from, 0, HOURS - 1) || !within(to, from, HOURS - 1)) {
            return BAD;
        }
        if (!within(dx, -MOST_WIND, MOST_WIND) || !within(dy, -MOST_WIND, MOST_WIND)) {
            return BAD;
        }
        Winds winds = real ? air.real : air.forecast;
        for (int hour = from; hour <= to; hour++) {
            winds.put(level, hour, dx, dy);
        }
        return 1;
    }

    // ---- flights

    public int fly(int x, int y, int tick, int load, int gas, int ballast) {
        if (!ground.has(x, y) || !within(tick, 0, HOURS - 1) || !within(load, 1, MOST_LOAD)) {
            return BAD;
        }
        if (!within(gas, 0, MOST_GAS) || !within(ballast, 0, MOST_BALLAST)) {
            return BAD;
        }
        int at = cellOf(x, y);
        if (ground.kinds[at] == CLOSED) {
            return NO;
        }
        if (flightCount >= MOST_FLIGHTS) {
            return FULL;
        }
        flights[flightCount].begin(at, tick, load, gas, ballast);
        flightCount++;
        return flightCount - 1;
    }

    public int go(int flight, int order, int dose, int n) {
        if (!isFlight(flight) || !within(order, 0, ORDERS - 1)) {
            return BAD;
        }
        if (!within(dose, 1, MOST_DOSE) || !within(n, 1, MOST_TICKS)) {
            return BAD;
        }
        Flight one = flights[flight];
        if (one.balloon.landed) {
            return NO;
        }
        if (one.entries + n > MOST_ENTRIES) {
            return FULL;
        }
        int done = 0;
        while (done < n && !one.balloon.landed) {
            one.balloon.pass(order, dose, air, air.real, ground);
            one.writeDown();
            done++;
        }
        return done;
    }

    public int about(int flight, int what) {
        if (!isFlight(flight)) {
            return BAD_ABOUT;
        }
        Flight one = flights[flight];
        Balloon balloon = one.balloon;
        switch (what) {
            case 0: return xOf(balloon.cell);
            case 1: return yOf(balloon.cell);
            case 2: return balloon.level;
            case 3: return balloon.gas;
            case 4: return balloon.ballast;
            case 5: return balloon.tick;
            case 6: return balloon.landed ? 1 : 0;
            case 7: return one.entries;
            case 8: return balloon.liftLessWeight(air);
            case 9: return balloon.vented;
            default: return BAD_ABOUT;
        }
    }

    public int distance(int flight) {
        if (!isFlight(flight)) {
            return BAD;
        }
        return flights[flight].flown();
    }

    // ---- plans

    public int plan(int flight, int n, int dose, int x, int y) {
        if (!mayPlan(flight, n, dose) || !ground.has(x, y)) {
            return BAD;
        }
        Balloon balloon = flights[flight].balloon;
        if (balloon.landed) {
            return NO;
        }
        return planner.best(balloon, n, dose, cellOf(x, y), true);
    }

    public int away(int flight, int n, int dose) {
        if (!mayPlan(flight, n, dose)) {
            return BAD;
        }
        Balloon balloon = flights[flight].balloon;
        if (balloon.landed) {
            return NO;
        }
        return planner.best(balloon, n, dose, flights[flight].startCell, false);
    }

    public int order(int i) {
        if (!within(i, 0, planner.foundLength - 1)) {
            return NONE;
        }
        return planner.found[i];
    }

    // ---- logs

    public int entry(int flight, int i, int what) {
        if (!isFlight(flight) || !within(what, 0, 2)) {
            return BAD;
        }
        Flight one = flights[flight];
        if (!within(i, 0, one.entries - 1) || one.lost[i]) {
            return NONE;
        }
        int place = one.places[i];
        if (what == 2) {
            return levelOfPlace(place);
        }
        return what == 0 ? xOf(cellOfPlace(place)) : yOf(cellOfPlace(place));
    }

    public int lose(int flight, int from, int to) {
        if (!isFlight(flight) || from < 1 || to < from) {
            return BAD;
        }
        return flights[flight].forget(from, to);
    }

    public int judge(int flight) {
        if (!isFlight(flight)) {
            return BAD;
        }
        wayCounter.follow(flights[flight]);
        return wayCounter.verdict();
    }

    public int ways(int flight, boolean broken) {
        if (!isFlight(flight)) {
            return BAD;
        }
        wayCounter.follow(flights[flight]);
        return broken ? wayCounter.broken : Math.min(MOST_WAYS, wayCounter.clean + wayCounter.broken);
    }

    // ---- chasers, records

    public int chaser(int x, int y, int pace) {
        if (!ground.has(x, y) || !within(pace, 1, MOST_PACE)) {
            return BAD;
        }
        int at = cellOf(x, y);
        if (ground.kinds[at] == WATER) {
            return NO;
        }
        if (chasers.number >= MOST_CHASERS) {
            return FULL;
        }
        chasers.add(at, pace);
        return chasers.number - 1;
    }

    public int chase(int chaser, int x, int y) {
        if (!within(chaser, 0, chasers.number - 1) || !ground.has(x, y)) {
            return BAD;
        }
        chasers.measureFrom(cellOf(x, y));
        return chasers.ticksOf(chaser);
    }

    public int first(int flight) {
        if (!isFlight(flight)) {
            return BAD;
        }
        chasers.measureFrom(flights[flight].balloon.cell);
        return chasers.soonest();
    }

    public int record(int k) {
        if (k < 0) {
            return BAD;
        }
        for (int i = 0; i < flightCount; i++) {
            ranked[i] = flights[i].balloon.landed && judge(i) == CLEAR;
        }
        for (int i = 0; i < flightCount; i++) {
            if (ranked[i] && countAheadOf(i) == k) {
                return i;
            }
        }
        return NONE;
    }

    public int count(int what) {
        switch (what) {
            case 0: return ground.w;
            case 1: return ground.h;
            case 2: return flightCount;
            case 3: return countGoing();
            case 4: return chasers.number;
            case 5: return ground.countClosed();
            case 6: return countLost();
            default: return BAD;
        }
    }

    public long digest() {
        long h = 163;
        for (int what = 0; what <= 6; what++) {
            h = 31 * h + count(what);
        }
        for (int i = 0; i < flightCount; i++) {
            h = digestFlight(h, i);
        }
        for (int i = 0; i < chasers.number; i++) {
            h = 31 * h + xOf(chasers.cells[i]);
            h = 31 * h + yOf(chasers.cells[i]);
        }
        return h;
    }

    // ---- helpers of the face

    private long digestFlight(long before, int flight) {
        long h = before;
        for (int what = 0; what <= 9; what++) {
            h = 31 * h + about(flight, what);
        }
        for (int i = 0; i < flights[flight].entries; i++) {
            for (int what = 0; what <= 2; what++) {
                h = 31 * h + entry(flight, i, what);
            }
        }
        return h;
    }

    private boolean isFlight(int flight) {
        return within(flight, 0, flightCount - 1);
    }

    private boolean mayPlan(int flight, int n, int dose) {
        return isFlight(flight) && within(n, 1, MOST_PLANNED) && within(dose, 1, MOST_DOSE);
    }

    private int countAheadOf(int flight) {
        int ahead = 0;
        for (int i = 0; i < flightCount; i++) {
            if (i != flight && ranked[i] && isAhead(i, flight)) {
                ahead++;
            }
        }
        return ahead;
    }

    private boolean isAhead(int one, int other) {
        int farther = flights[one].flown() - flights[other].flown();
        if (farther != 0) {
            return farther > 0;
        }
        // Every TICK writes one entry, so fewer entries are fewer TICKS.
        int longer = flights[one].entries - flights[other].entries;
        return longer != 0 ? longer < 0 : one < other;
    }

    private int countGoing() {
        int going = 0;
        for (int i = 0; i < flightCount; i++) {
            if (!flights[i].balloon.landed) {
                going++;
            }
        }
        return going;
    }

    private int countLost() {
        int lost = 0;
        for (int i = 0; i < flightCount; i++) {
            lost += flights[i].lostCount;
        }
        return lost;
    }

    private static boolean within(int v, int least, int most) {
        return v >= least && v <= most;
    }

    // ---- cells and places as single numbers

    private static int cellOf(int x, int y) {
        return y * SIDE + x;
    }

    private static int xOf(int cell) {
        return cell % SIDE;
    }

    private static int yOf(int cell) {
        return cell / SIDE;
    }

    private static int placeOf(int cell, int level) {
        return cell * LEVELS + level;
    }

    private static int cellOfPlace(int place) {
        return place / LEVELS;
    }

    private static int levelOfPlace(int place) {
        return place % LEVELS;
    }

    private static int squareBetween(int one, int other) {
        int dx = xOf(one) - xOf(other);
        int dy = yOf(one) - yOf(other);
        return dx * dx + dy * dy;
    }

    /** THE LAND. A CELL's number does not depend on w, so the rows are made once for the greatest one. */
    private static final class Land {
        int w = FIRST_SIDE;
        int h = FIRST_SIDE;
        final int[] kinds = new int[CELLS];

        void clear(int newW, int newH) {
            w = newW;
            h = newH;
            Arrays.fill(kinds, PLAIN);
        }

        boolean has(int x, int y) {
            return within(x, 0, w - 1) && within(y, 0, h - 1);
        }

        int movedFrom(int cell, int dx, int dy) {
            int x = xOf(cell) + dx;
            int y = yOf(cell) + dy;
            return has(x, y) ? cellOf(x, y) : cell;
        }

        int countClosed() {
            int closed = 0;
            for (int i = 0; i < CELLS; i++) {
                if (kinds[i] == CLOSED) {
                    closed++;
                }
            }
            return closed;
        }
    }

    private static final class Winds {
        final int[] dx = new int[LEVELS * HOURS];
        final int[] dy = new int[LEVELS * HOURS];

        void put(int level, int hour, int x, int y) {
            dx[level * HOURS + hour] = x;
            dy[level * HOURS + hour] = y;
        }

        int leadFrom(int cell, int level, int hour, Land land) {
            int i = level * HOURS + hour;
            return land.movedFrom(cell, dx[i], dy[i]);
        }
    }

    private static final class Air {
        final int[] density = new int[LEVELS];
        final int[] fullness = new int[LEVELS];
        final int[] warmth = new int[HOURS];
        final Winds real = new Winds();
        final Winds forecast = new Winds();

        Air() {
            for (int l = 0; l < LEVELS; l++) {
                density[l] = GROUND_DENSITY - l;
                fullness[l] = MOST_GAS;
            }
        }
    }

    /** What a TICK changes; plans try TICKS on balloons of their own. */
    private static final class Balloon {
        int cell;
        int level;
        int tick;
        int load;
        int gas;
        int ballast;
        int vented;
        boolean landed;

        void copyOf(Balloon other) {
            cell = other.cell;
            level = other.level;
            tick = other.tick;
            load = other.load;
            gas = other.gas;
            ballast = other.ballast;
            vented = other.vented;
            landed = other.landed;
        }

        int hour() {
            return tick % HOURS;
        }

        int liftLessWeight(Air air) {
            return gas * (air.density[level] + air.warmth[hour()]) - 10 * (load + ballast);
        }

        void pass(int order, int dose, Air air, Winds winds, Land land) {
            spend(order, dose);
            climb(liftLessWeight(air));
            ventAbove(air.fullness[level]);
            if (level == 0) {
                landed = true;
            } else {
                cell = winds.leadFrom(cell, level, hour(), land);
            }
            tick++;
        }

        private void spend(int order, int dose) {
            if (order == DROP) {
                ballast -= Math.min(dose, ballast);
            } else if (order == VENT) {
                gas -= Math.min(dose, gas);
            }
        }

        private void climb(int push) {
            if (push > 0) {
                level = Math.min(level + 1, TOP);
            } else if (push < 0) {
                level = Math.max(level - 1, 0);
            }
        }

        private void ventAbove(int fullness) {
            if (gas > fullness) {
                vented += gas - fullness;
                gas = fullness;
            }
        }
    }

    /** A FLIGHT and ITS LOG. */
    private static final class Flight {
        final Balloon balloon = new Balloon();
        final int[] places = new int[MOST_ENTRIES];
        final boolean[] lost = new boolean[MOST_ENTRIES];
        int entries;
        int lostCount;
        int startCell;
        int startTick;

        void begin(int cell, int tick, int load, int gas, int ballast) {
            startCell = cell;
            startTick = tick;
            balloon.cell = cell;
            balloon.level = 1;
            balloon.tick = tick;
            balloon.load = load;
            balloon.gas = gas;
            balloon.ballast = ballast;
            balloon.vented = 0;
            balloon.landed = false;
            entries = 0;
            lostCount = 0;
            writeDown();
        }

        void writeDown() {
            if (entries < MOST_ENTRIES) {
                places[entries] = placeOf(balloon.cell, balloon.level);
                // The rows are used again by later FLIGHTS, so an old loss may stand here.
                lost[entries] = false;
                entries++;
            }
        }

        int forget(int from, int to) {
            int newlyLost = 0;
            int last = Math.min(to, entries - 1);
            for (int i = from; i <= last; i++) {
                if (!lost[i]) {
                    lost[i] = true;
                    newlyLost++;
                }
            }
            lostCount += newlyLost;
            return newlyLost;
        }

        /** DISTANCE from where it began, bit by bit from the highest that the root can have. */
        int flown() {
            int square = 10000 * squareBetween(startCell, balloon.cell);
            int root = 0;
            for (int bit = 2048; bit > 0; bit /= 2) {
                int larger = root + bit;
                if (larger * larger <= square) {
                    root = larger;
                }
            }
            return root;
        }
    }

    /** Tries all rows of ORDERS; the balloon behind each TICK is kept, so that rows share their beginnings. */
    private static final class Planner {
        final Land land;
        final Air air;
        final Balloon[] behind = new Balloon[MOST_PLANNED + 1];
        final int[] row = new int[MOST_PLANNED];
        final int[] found = new int[MOST_PLANNED];
        int foundLength = 0;
        int length;
        int dose;
        int aim;
        boolean near;
        int bestSquare;

        Planner(Land land, Air air) {
            this.land = land;
            this.air = air;
            for (int i = 0; i <= MOST_PLANNED; i++) {
                behind[i] = new Balloon();
            }
        }

        int best(Balloon from, int n, int theDose, int theAim, boolean isNear) {
            length = n;
            dose = theDose;
            aim = theAim;
            near = isNear;
            bestSquare = NONE;
            behind[0].copyOf(from);
            tryFrom(0);
            return bestSquare;
        }

        private void tryFrom(int done) {
            if (done >= length || done >= MOST_PLANNED || behind[done].landed) {
                weigh(done);
                return;
            }
            Balloon next = behind[done + 1];
            for (int order = 0; order < ORDERS; order++) {
                next.copyOf(behind[done]);
                next.pass(order, dose, air, air.forecast, land);
                if (mayBe(next)) {
                    row[done] = order;
                    tryFrom(done + 1);
                }
            }
        }

        private boolean mayBe(Balloon balloon) {
            int kind = land.kinds[balloon.cell];
            return kind != CLOSED && !(balloon.landed && kind == WATER);
        }

        private void weigh(int done) {
            int square = squareBetween(behind[done].cell, aim);
            // Rows come in their order, so of like ones the first stays.
            boolean better = near ? square < bestSquare : square > bestSquare;
            if (bestSquare != NONE && !better) {
                return;
            }
            bestSquare = square;
            foundLength = length;
            for (int i = 0; i < length; i++) {
                found[i] = i < done ? row[i] : 0;
            }
        }
    }

    /** The PLACES that WAYS have come to at one entry, with how many come there. */
    private static final class Front {
        final int[] places = new int[PLACES];
        final int[] clean = new int[PLACES];
        final int[] broken = new int[PLACES];
        int size = 0;

        void clear() {
            for (int i = 0; i < size; i++) {
                clean[places[i]] = 0;
                broken[places[i]] = 0;
            }
            size = 0;
        }

        void add(int place, int cleanWays, int brokenWays) {
            if (clean[place] == 0 && broken[place] == 0 && size < PLACES) {
                places[size] = place;
                size++;
            }
            clean[place] = Math.min(MOST_WAYS, clean[place] + cleanWays);
            broken[place] = Math.min(MOST_WAYS, broken[place] + brokenWays);
        }
    }

    /** Counts WAYS entry by entry; a number stops at MOST_WAYS, as sums of what is told never need more. */
    private static final class WayCounter {
        final Land land;
        final Winds winds;
        Front here = new Front();
        Front there = new Front();
        int clean;
        int broken;

        WayCounter(Land land, Winds winds) {
            this.land = land;
            this.winds = winds;
        }

        void follow(Flight flight) {
            here.clear();
            enter(here, flight.places[0], 1, 0);
            for (int i = 1; i < flight.entries; i++) {
                there.clear();
                for (int j = 0; j < here.size; j++) {
                    spread(here.places[j], flight, i);
                }
                Front behind = here;
                here = there;
                there = behind;
            }
            sumUp();
        }

        private void spread(int place, Flight flight, int entry) {
            int level = levelOfPlace(place);
            if (level == 0) {
                return;
            }
            int cell = cellOfPlace(place);
            int hour = (flight.startTick + entry - 1) % HOURS;
            int highest = Math.min(level + 1, TOP);
            for (int l = level - 1; l <= highest; l++) {
                int next = placeOf(l == 0 ? cell : winds.leadFrom(cell, l, hour, land), l);
                if (flight.lost[entry] || flight.places[entry] == next) {
                    enter(there, next, here.clean[place], here.broken[place]);
                }
            }
        }

        private void enter(Front front, int place, int cleanWays, int brokenWays) {
            if (land.kinds[cellOfPlace(place)] == CLOSED) {
                front.add(place, 0, cleanWays + brokenWays);
            } else {
                front.add(place, cleanWays, brokenWays);
            }
        }

        private void sumUp() {
            clean = 0;
            broken = 0;
            for (int i = 0; i < here.size; i++) {
                clean = Math.min(MOST_WAYS, clean + here.clean[here.places[i]]);
                broken = Math.min(MOST_WAYS, broken + here.broken[here.places[i]]);
            }
        }

        int verdict() {
            if (clean > 0 && broken == 0) {
                return CLEAR;
            }
            return broken > 0 && clean == 0 ? BREACH : DOUBT;
        }
    }

    /** The CHASERS, and how many steps each CELL is from the one they are asked for. */
    private static final class Chasers {
        final Land land;
        final int[] cells = new int[MOST_CHASERS];
        final int[] paces = new int[MOST_CHASERS];
        int number = 0;
        final int[] steps = new int[CELLS];
        final int[] queue = new int[CELLS];

        Chasers(Land land) {
            this.land = land;
        }

        void add(int cell, int pace) {
            if (number < MOST_CHASERS) {
                cells[number] = cell;
                paces[number] = pace;
                number++;
            }
        }

        boolean standOn(int cell) {
            for (int i = 0; i < number; i++) {
                if (cells[i] == cell) {
                    return true;
                }
            }
            return false;
        }

        /** Steps lead both ways, so one search from the aim serves all CHASERS. */
        void measureFrom(int aim) {
            Arrays.fill(steps, NONE);
            if (land.kinds[aim] == WATER) {
                return;
            }
            steps[aim] = 0;
            queue[0] = aim;
            int filled = 1;
            for (int i = 0; i < filled && i < CELLS; i++) {
                filled = stepOn(queue[i], filled);
            }
        }

        private int stepOn(int cell, int alreadyFilled) {
            int filled = alreadyFilled;
            for (int side = 0; side < 4; side++) {
                // Beyond THE LAND this is the CELL itself, which has its steps already.
                int next = land.movedFrom(cell, SIDE_X[side], SIDE_Y[side]);
                if (steps[next] == NONE && land.kinds[next] != WATER && filled < CELLS) {
                    steps[next] = steps[cell] + 1;
                    queue[filled] = next;
                    filled++;
                }
            }
            return filled;
        }

        int ticksOf(int chaser) {
            int far = steps[cells[chaser]];
            int pace = paces[chaser];
            if (far == NONE || pace < 1) {
                return NONE;
            }
            return (far + pace - 1) / pace;
        }

        int soonest() {
            int best = NONE;
            int bestTicks = NONE;
            for (int i = 0; i < number; i++) {
                int ticks = ticksOf(i);
                if (ticks != NONE && (best == NONE || ticks < bestTicks)) {
                    best = i;
                    bestTicks = ticks;
                }
            }
            return best;
        }
    }
}
