import java.util.ArrayList;
import java.util.Arrays;
import java.util.EnumMap;
import java.util.List;
import java.util.Map;

/**
 * Whether a call changed anything that can be seen: two objects are made by the same calls, one is asked the call
 * in question, and then both answer the same rows of further calls. The rows are four, each on objects of its own,
 * for the four of them together would be above 512 calls.
 */
final class Probe {
    private static final int ROWS = 4;
    private static final Map<State, List<List<Long>>> untouched = new EnumMap<>(State.class);

    private final List<Long> seen = new ArrayList<>();
    private final Asked v;

    private Probe(Asked v) {
        this.v = v;
    }

    /** Checks the call's answer, and that it leaves the state as it was. */
    static void changesNothing(Check check, State state, long due, String call, int... args) {
        String told = state + ": " + call + Arrays.toString(args);
        check.due(told, state.made().ask(call, args), due);
        check.due(told + " changes nothing; the row that saw it", rowThatSees(state, call, args), -1);
    }

    /** The first row of calls that is answered otherwise behind this call, -1 if none is. */
    static int rowThatSees(State state, String call, int... args) {
        for (int row = 0; row < ROWS; row++) {
            Asked v = state.made();
            v.ask(call, args);
            if (!seen(v, state, row).equals(plain(state).get(row))) {
                return row;
            }
        }
        return -1;
    }

    private static List<List<Long>> plain(State state) {
        if (!untouched.containsKey(state)) {
            List<List<Long>> rows = new ArrayList<>();
            for (int row = 0; row < ROWS; row++) {
                rows.add(seen(state.made(), state, row));
            }
            untouched.put(state, rows);
        }
        return untouched.get(state);
    }

    private static List<Long> seen(Asked v, State state, int row) {
        Probe probe = new Probe(v);
        switch (row) {
            case 0: probe.askThings(state); break;
            case 1: probe.askLevelsAndHours(); break;
            case 2: probe.askRealWinds(); break;
            default: probe.askForecast();
        }
        return probe.seen;
    }

    private void ask(String call, int... args) {
        seen.add(v.ask(call, args));
    }

    /** The latest PLAN, FLIGHTS and their LOGS, CHASERS and their PACE, CELLS, and how many more there may be. */
    private void askThings(State state) {
        for (int i = -1; i <= 6; i++) {
            ask("order", i);
        }
        ask("digest");
        for (int f = 0; f < 8; f++) {
            ask("distance", f);
            ask("ways", f, 0);
            ask("ways", f, 1);
            ask("first", f);
            ask("record", f);
            ask("away", f, 2, 3);
        }
        for (int c = 0; c < 4; c++) {
            ask("chase", c, 0, 0);
            ask("chase", c, state.w - 1, state.h - 1);
        }
        for (int x = 0; x < state.w; x++) {
            for (int y = 0; y < state.h; y++) {
                ask("cell", x, y, 0);
            }
        }
        for (int f = 0; f < 8; f++) {
            ask("go", f, 1, 5, 1);
        }
        ask("fly", 0, 0, 0, 1, 0, 0);
        ask("chaser", 0, 0, 1);
        ask("digest");
    }

    private void coolDown() {
        for (int hour = 0; hour < 24; hour++) {
            ask("warmth", hour, 0);
        }
    }

    /** WARMTH as it was; DENSITY by LIFT and FULLNESS by GAS on the way up, and again down to 1 and to 0. */
    private void askLevelsAndHours() {
        coolDown();
        ask("land", 24, 24);
        ask("fly", 12, 12, 0, 1, 500, 0);
        for (int l = 1; l <= 7; l++) {
            ask("about", 0, 8);
            ask("go", 0, 0, 1, 1);
            ask("about", 0, 3);
        }
        ask("level", 2, 0, 500);
        ask("fly", 12, 12, 0, 1, 500, 0);
        ask("go", 1, 0, 1, 2);
        ask("about", 1, 3);
        ask("level", 1, 0, 500);
        ask("fly", 12, 12, 0, 1, 500, 0);
        ask("go", 2, 0, 1, 1);
        ask("about", 2, 3);
        ask("about", 2, 8);
    }

    /** For each LEVEL a FLIGHT that comes up to it, stays there for all hours, and has all of it in its LOG. */
    private void askRealWinds() {
        coolDown();
        ask("land", 24, 24);
        for (int l = 1; l <= 7; l++) {
            ask("level", l, 10, 500);
            ask("fly", 12, 12, 0, 10, 10, 0);
            ask("go", l - 1, 0, 1, 12);
            ask("go", l - 1, 0, 1, 12);
            ask("go", l - 1, 0, 1, 6);
            ask("level", l, 11, 500);
        }
        ask("digest");
    }

    /** PLANS of FLIGHTS that have no choice: from each hour up to each LEVEL, and from LEVEL 2 down to 1. */
    private void askForecast() {
        coolDown();
        for (int l = 1; l <= 7; l++) {
            ask("level", l, 50, 500);
        }
        for (int hour = 0; hour < 24; hour++) {
            beginAt(hour);
            for (int n = 1; n <= 6; n++) {
                ask("plan", hour % 8, n, 1, 0, 3);
            }
        }
        ask("level", 2, 0, 500);
        for (int hour = 0; hour < 24; hour++) {
            beginAt(hour);
            ask("go", hour % 8, 0, 1, 1);
            ask("plan", hour % 8, 1, 1, 0, 3);
            ask("plan", hour % 8, 1, 1, 0, 0);
        }
    }

    private void beginAt(int hour) {
        if (hour % 8 == 0) {
            ask("land", 24, 24);
        }
        ask("fly", 12, 12, hour, 1, 500, 0);
    }
}
