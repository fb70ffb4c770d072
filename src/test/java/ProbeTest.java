/** That Probe sees what there is to see: in each state, each small change that a call may make. */
public final class ProbeTest {
    private static final Check check = new Check();

    public static void main(String[] args) {
        for (State state : State.values()) {
            seesLandAndCells(state);
            seesLevelsAndHours(state);
            seesWinds(state);
        }
        seesFlights();
        seesLosses();
        seesPlans();
        seesChasers();
        check.end("ProbeTest");
    }

    private static void sees(State state, String call, int... args) {
        StringBuilder told = new StringBuilder(state + ": " + call);
        for (int a : args) {
            told.append(' ').append(a);
        }
        check.holds("seen: " + told, Probe.rowThatSees(state, call, args) >= 0);
    }

    private static void seesLandAndCells(State state) {
        sees(state, "land", state.w + 1, state.h);
        sees(state, "land", state.w, state.h - 1);
        for (int x = 0; x < state.w; x++) {
            for (int y = 0; y < state.h; y++) {
                Asked v = state.made();
                int was = (int) v.ask("cell", x, y, 0);
                sees(state, "cell", x, y, was == 2 ? 0 : 2);
            }
        }
    }

    private static void seesLevelsAndHours(State state) {
        for (int l = 0; l <= 7; l++) {
            int density = state == State.NEW ? 14 - l : 20 - l;
            int fullness = state == State.NEW ? 500 : 480 - 20 * l;
            sees(state, "level", l, density + 1, fullness);
            sees(state, "level", l, density - 1, fullness);
            sees(state, "level", l, density, fullness - 1);
        }
        for (int hour = 0; hour < 24; hour++) {
            int was = (int) state.made().ask("warmth", hour, 0);
            sees(state, "warmth", hour, was + 1);
            sees(state, "warmth", hour, was - 1);
        }
    }

    /** What the WIND was is not told by a call, so it is made two different ones, one of which is another. */
    private static void seesWinds(State state) {
        for (int real = 0; real <= 1; real++) {
            for (int l = 1; l <= 7; l++) {
                for (int hour = 0; hour < 24; hour++) {
                    int one = Probe.rowThatSees(state, "wind", real, l, hour, hour, 2, 1);
                    int other = Probe.rowThatSees(state, "wind", real, l, hour, hour, -1, 2);
                    check.holds(state + ": wind " + real + " " + l + " " + hour, one >= 0 && other >= 0);
                }
            }
        }
    }

    private static void seesFlights() {
        sees(State.NEW, "fly", 0, 0, 0, 1, 0, 0);
        sees(State.SOME, "fly", 0, 0, 0, 1, 0, 0);
        for (int f = 0; f < State.FULL.flights; f++) {
            boolean goesOn = f != State.LANDED && f != State.LANDED_AT_THE_LAST_ENTRY && f != State.WITH_FULL_LOG;
            for (int order = 0; order <= 2 && goesOn; order++) {
                sees(State.FULL, "go", f, order, 1, 1);
            }
        }
    }

    private static void seesLosses() {
        sees(State.SOME, "lose", State.GOES, 1, 1);
        sees(State.SOME, "lose", State.GOES, 4, 4);
        sees(State.SOME, "lose", State.LANDED, 1, 1);
        sees(State.FULL, "lose", State.WITH_FULL_LOG, 59, 59);
        sees(State.FULL, "lose", State.LANDED_AT_THE_LAST_ENTRY, 1, 60);
    }

    private static void seesPlans() {
        for (int n = 1; n <= 6; n++) {
            if (n != 4) {
                sees(State.SOME, "plan", State.GOES, n, 2, 5, 0);
                sees(State.SOME, "away", State.GOES, n, 2);
            }
        }
    }

    private static void seesChasers() {
        for (int pace = 1; pace <= 5; pace++) {
            sees(State.NEW, "chaser", 0, 0, pace);
            sees(State.SOME, "chaser", 5, 0, pace);
        }
    }
}
