/**
 * Every range that the document tells, for every call that takes such a number, in every state: its first and last
 * number are as told; those beside them and far off are refused as BAD, and the refused call changes nothing.
 */
public final class RangesTest {
    private static final int LEAST = Integer.MIN_VALUE, MOST = Integer.MAX_VALUE;
    private static final Check check = new Check();

    private final State state;
    private final int lastX, lastY, lastFlight, lastChaser;

    private RangesTest(State state) {
        this.state = state;
        lastX = state.w - 1;
        lastY = state.h - 1;
        lastFlight = state.flights - 1;
        lastChaser = state.chasers - 1;
    }

    public static void main(String[] args) {
        for (State state : State.values()) {
            RangesTest test = new RangesTest(state);
            test.landAndCells();
            test.levelsAndHours();
            test.winds();
            test.beginnings();
            test.going();
            test.questionsOfAFlight();
            test.plans();
            test.logs();
            test.chasers();
            test.numbersAlone();
        }
        check.end("RangesTest");
    }

    private static long badOf(String call) {
        return call.equals("warmth") ? -1000 : call.equals("about") ? -100000 : -2;
    }

    /** Number i of the call is told as least .. most; the other numbers given are as told, whatever i is. */
    private void range(int i, int least, int most, String call, int... args) {
        if (least <= most) {
            asTold(with(args, i, least), call);
            asTold(with(args, i, most), call);
        }
        refuseBelow(i, least, call, args);
        if (most < MOST) {
            Probe.changesNothing(check, state, badOf(call), call, with(args, i, most + 1));
            Probe.changesNothing(check, state, badOf(call), call, with(args, i, MOST));
        }
    }

    private void refuseBelow(int i, int least, String call, int... args) {
        Probe.changesNothing(check, state, badOf(call), call, with(args, i, least - 1));
        Probe.changesNothing(check, state, badOf(call), call, with(args, i, LEAST));
    }

    private void asTold(int[] args, String call) {
        StringBuilder told = new StringBuilder(state + ": " + call);
        for (int a : args) {
            told.append(' ').append(a);
        }
        check.holds(told + " is not BAD", state.made().ask(call, args) != badOf(call));
    }

    private static int[] with(int[] args, int i, int v) {
        int[] other = args.clone();
        other[i] = v;
        return other;
    }

    /** "THE LAND is w by h CELLS (4 .. 24 each)"; "A CELL is PLAIN (0), WATER (1), CLOSED (2)". */
    private void landAndCells() {
        range(0, 4, 24, "land", 12, 12);
        range(1, 4, 24, "land", 12, 12);
        range(0, 0, lastX, "cell", 1, 2, 2);
        range(1, 0, lastY, "cell", 1, 2, 2);
        range(2, 0, 2, "cell", 1, 2, 2);
    }

    /** "LEVELS are 0 .. 7", "DENSITY (0 .. 50)", "FULLNESS (0 .. 500)"; "an hour (0 .. 23)", "WARMTH (-20 .. 20)". */
    private void levelsAndHours() {
        range(0, 0, 7, "level", 3, 5, 100);
        for (int l = 0; l <= 7; l += 7) {
            range(1, 0, 50, "level", l, 5, 100);
            range(2, 0, 500, "level", l, 5, 100);
        }
        range(0, 0, 23, "warmth", 3, 17);
        for (int hour = 0; hour <= 23; hour += 23) {
            range(1, -20, 20, "warmth", hour, 17);
        }
    }

    /** "a LEVEL 1 .. 7 and hours from .. to (0 .. 23, to not below from)"; "two steps x, y (-2 .. 2)". */
    private void winds() {
        for (int real = 0; real <= 1; real++) {
            range(1, 1, 7, "wind", real, 3, 5, 6, 2, 1);
            range(2, 0, 23, "wind", real, 3, 5, 23, 2, 1);
            Probe.changesNothing(check, state, -2, "wind", real, 3, 24, 24, 2, 1);
            for (int from = 0; from <= 23; from++) {
                range(3, from, 23, "wind", real, 3, from, from, 2, 1);
            }
            range(4, -2, 2, "wind", real, 3, 5, 6, 2, 1);
            range(5, -2, 2, "wind", real, 3, 5, 6, 2, 1);
        }
    }

    /** "a FLIGHT at a TICK (0 .. 23)", "with LOAD (1 .. 200), GAS (0 .. 500), BALLAST (0 .. 200)". */
    private void beginnings() {
        range(0, 0, lastX, "fly", 2, 1, 7, 20, 30, 40);
        range(1, 0, lastY, "fly", 2, 1, 7, 20, 30, 40);
        range(2, 0, 23, "fly", 2, 1, 7, 20, 30, 40);
        range(3, 1, 200, "fly", 2, 1, 7, 20, 30, 40);
        range(4, 0, 500, "fly", 2, 1, 7, 20, 30, 40);
        range(5, 0, 200, "fly", 2, 1, 7, 20, 30, 40);
    }

    /** "n TICKS (1 .. 12), each with an ORDER (0 .. 2) and a DOSE (1 .. 50)". */
    private void going() {
        range(0, 0, lastFlight, "go", 0, 2, 5, 3);
        if (state.flights > 0) {
            range(1, 0, 2, "go", State.GOES, 2, 5, 3);
            range(2, 1, 50, "go", State.GOES, 2, 5, 3);
            range(3, 1, 12, "go", State.GOES, 2, 5, 3);
        }
    }

    /** "FLIGHTS 0 .. 7 begin, as they come": one that has not begun is BAD in every call that asks for one. */
    private void questionsOfAFlight() {
        for (int what = 0; what <= 9; what++) {
            range(0, 0, lastFlight, "about", 0, what);
        }
        range(0, 0, lastFlight, "distance", 0);
        range(0, 0, lastFlight, "judge", 0);
        range(0, 0, lastFlight, "ways", 0, 0);
        range(0, 0, lastFlight, "ways", 0, 1);
        range(0, 0, lastFlight, "first", 0);
        for (int f = 0; f < state.flights; f++) {
            range(1, 0, 9, "about", f, 0);
        }
    }

    /** "A PLAN for n TICKS (1 .. 6)". */
    private void plans() {
        range(0, 0, lastFlight, "plan", 0, 2, 5, 1, 1);
        range(0, 0, lastFlight, "away", 0, 2, 5);
        if (state.flights > 0) {
            range(1, 1, 6, "plan", State.GOES, 2, 5, 1, 1);
            range(2, 1, 50, "plan", State.GOES, 2, 5, 1, 1);
            range(3, 0, lastX, "plan", State.GOES, 2, 5, 1, 1);
            range(4, 0, lastY, "plan", State.GOES, 2, 5, 1, 1);
            range(1, 1, 6, "away", State.GOES, 2, 5);
            range(2, 1, 50, "away", State.GOES, 2, 5);
        }
    }

    /** "Entry i of a LOG: 0 x, 1 y, 2 LEVEL"; "BAD: also from below 1, to below from". */
    private void logs() {
        range(0, 0, lastFlight, "entry", 0, 0, 0);
        range(0, 0, lastFlight, "lose", 0, 1, 1);
        for (int f = 0; f < state.flights; f++) {
            range(2, 0, 2, "entry", f, 0, 0);
            range(1, 1, MOST, "lose", f, 1, MOST);
            range(2, 1, MOST, "lose", f, 1, 1);
            range(2, 4, MOST, "lose", f, 4, 4);
            range(2, MOST, MOST, "lose", f, MOST, MOST);
        }
    }

    /** "CHASERS 0 .. 3, as they come", "PACE steps (1 .. 5)". */
    private void chasers() {
        range(0, 0, lastX, "chaser", 2, 2, 4);
        range(1, 0, lastY, "chaser", 2, 2, 4);
        range(2, 1, 5, "chaser", 2, 2, 4);
        range(0, 0, lastChaser, "chase", 0, 1, 2);
        if (state.chasers > 0) {
            range(1, 0, lastX, "chase", 0, 1, 2);
            range(2, 0, lastY, "chase", 0, 1, 2);
        }
    }

    /** "How many: 0 w .. 6 entries LOST"; "BAD: k below 0". */
    private void numbersAlone() {
        range(0, 0, 6, "count", 0);
        range(0, 0, MOST, "record", 0);
    }
}
