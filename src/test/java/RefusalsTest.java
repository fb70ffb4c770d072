/**
 * "Refused, changing nothing, the first of: BAD -2 a number is not as told; NO -3 as told; FULL -4": every NO and
 * every FULL, each where more than one would be due, and the calls that only ask, which change nothing either.
 */
public final class RefusalsTest {
    private static final Check check = new Check();

    public static void main(String[] args) {
        statesAreAsMeant();
        waterUnderAChaser();
        flyOnClosed();
        ninthFlight();
        landedGoesNoMore();
        fullLog();
        planOfALanded();
        chaserOnWater();
        fifthChaser();
        badBeforeNo();
        badBeforeFull();
        noBeforeFull();
        noneChangesNothing();
        askingChangesNothing();
        check.end("RefusalsTest");
    }

    private static void no(State state, String call, int... args) {
        Probe.changesNothing(check, state, -3, call, args);
    }

    private static void full(String call, int... args) {
        Probe.changesNothing(check, State.FULL, -4, call, args);
    }

    private static void bad(State state, String call, int... args) {
        Probe.changesNothing(check, state, -2, call, args);
    }

    private static void statesAreAsMeant() {
        for (State state : State.values()) {
            Asked v = state.made();
            int[] counts = {state.w, state.h, state.flights, goingIn(state), state.chasers};
            for (int what = 0; what < counts.length; what++) {
                check.due(state + ": count " + what, v.ask("count", what), counts[what]);
            }
        }
        Asked v = State.FULL.made();
        int[][] landedAndEntries = {{State.GOES, 0, 5}, {State.LANDED, 1, 2}, {State.WITH_FULL_LOG, 0, 60},
            {State.LANDED_AT_THE_LAST_ENTRY, 1, 60}, {State.WITH_55_ENTRIES, 0, 55}};
        for (int[] f : landedAndEntries) {
            check.due("flight " + f[0] + " landed", v.ask("about", f[0], 6), f[1]);
            check.due("flight " + f[0] + " entries", v.ask("about", f[0], 7), f[2]);
        }
        check.due("a plan was found", v.ask("order", 3) >= 0 ? 1 : 0, 1);
        check.due("of four ticks", v.ask("order", 4), -1);
    }

    private static int goingIn(State state) {
        return state == State.NEW ? 0 : state == State.SOME ? 2 : 6;
    }

    /** cell, "NO: WATER where a CHASER stands". */
    private static void waterUnderAChaser() {
        no(State.SOME, "cell", 0, 0, 1);
        no(State.SOME, "cell", 3, 2, 1);
        int[][] cells = {{0, 0}, {3, 2}, {5, 0}, {0, 4}};
        for (int[] c : cells) {
            no(State.FULL, "cell", c[0], c[1], 1);
            check.due("CLOSED where a CHASER stands", State.FULL.made().ask("cell", c[0], c[1], 2), 0);
            check.due("PLAIN where a CHASER stands", State.FULL.made().ask("cell", c[0], c[1], 0), 0);
        }
        check.due("WATER where a CHASER will stand", State.SOME.made().ask("cell", 5, 0, 1), 0);
        check.due("WATER where a CHASER might stand", State.NEW.made().ask("cell", 0, 0, 1), 0);
    }

    /** fly, "NO: the CELL is CLOSED". */
    private static void flyOnClosed() {
        no(State.SOME, "fly", 2, 3, 0, 1, 0, 0);
        no(State.SOME, "fly", 5, 4, 23, 200, 500, 200);
        check.due("beside it", State.SOME.made().ask("fly", 4, 4, 0, 1, 0, 0), 3);
        check.due("WATER is no bar", State.SOME.made().ask("fly", 1, 1, 0, 1, 0, 0), 3);
    }

    /** fly, "FULL: 8". */
    private static void ninthFlight() {
        full("fly", 0, 0, 0, 1, 0, 0);
        full("fly", 1, 1, 23, 200, 500, 200);
        Asked v = State.SOME.made();
        for (int f = 3; f <= 7; f++) {
            check.due("FLIGHT " + f, v.ask("fly", 0, 0, 0, 1, 0, 0), f);
        }
        check.due("the ninth", v.ask("fly", 0, 0, 0, 1, 0, 0), -4);
    }

    /** go, "NO: it goes no more". */
    private static void landedGoesNoMore() {
        for (int order = 0; order <= 2; order++) {
            no(State.SOME, "go", State.LANDED, order, 1, 1);
            no(State.SOME, "go", State.LANDED, order, 50, 12);
        }
    }

    /** go, "FULL: its LOG might have above 60 entries". */
    private static void fullLog() {
        full("go", State.WITH_FULL_LOG, 0, 1, 1);
        full("go", State.WITH_FULL_LOG, 2, 50, 12);
        full("go", State.WITH_55_ENTRIES, 1, 50, 6);
        full("go", State.WITH_55_ENTRIES, 2, 50, 12);
        check.due("just 60", State.FULL.made().ask("go", State.WITH_55_ENTRIES, 1, 50, 5), 5);
    }

    /** plan and away, "NO: it goes no more". */
    private static void planOfALanded() {
        no(State.SOME, "plan", State.LANDED, 1, 1, 0, 0);
        no(State.SOME, "plan", State.LANDED, 6, 50, 5, 4);
        no(State.SOME, "away", State.LANDED, 1, 1);
        no(State.SOME, "away", State.LANDED, 6, 50);
        no(State.FULL, "plan", State.LANDED_AT_THE_LAST_ENTRY, 1, 1, 0, 0);
        no(State.FULL, "away", State.LANDED_AT_THE_LAST_ENTRY, 1, 1);
        Asked v = State.FULL.made();
        check.holds("a full LOG is no bar to a PLAN", v.ask("plan", State.WITH_FULL_LOG, 1, 1, 0, 0) >= 0);
        check.holds("nor to one away", v.ask("away", State.WITH_FULL_LOG, 1, 1) >= 0);
    }

    /** chaser, "NO: WATER". */
    private static void chaserOnWater() {
        no(State.SOME, "chaser", 1, 1, 1);
        no(State.SOME, "chaser", 4, 0, 5);
        check.due("CLOSED is no bar", State.SOME.made().ask("chaser", 5, 4, 5), 2);
        check.due("nor is another CHASER", State.SOME.made().ask("chaser", 0, 0, 1), 2);
    }

    /** chaser, "FULL: 4". */
    private static void fifthChaser() {
        full("chaser", 2, 2, 1);
        full("chaser", 5, 4, 5);
        Asked v = State.SOME.made();
        check.due("the third", v.ask("chaser", 2, 2, 1), 2);
        check.due("the fourth", v.ask("chaser", 2, 2, 1), 3);
        check.due("the fifth", v.ask("chaser", 2, 2, 1), -4);
    }

    private static void badBeforeNo() {
        bad(State.SOME, "cell", 3, 2, 3);
        bad(State.SOME, "fly", 2, 3, 24, 1, 0, 0);
        bad(State.SOME, "fly", 2, 3, 0, 0, 0, 0);
        bad(State.SOME, "fly", 2, 3, 0, 1, 501, 0);
        bad(State.SOME, "fly", 2, 3, 0, 1, 0, 201);
        bad(State.SOME, "go", State.LANDED, 3, 1, 1);
        bad(State.SOME, "go", State.LANDED, 0, 0, 1);
        bad(State.SOME, "go", State.LANDED, 0, 1, 13);
        bad(State.SOME, "plan", State.LANDED, 7, 1, 0, 0);
        bad(State.SOME, "plan", State.LANDED, 1, 51, 0, 0);
        bad(State.SOME, "plan", State.LANDED, 1, 1, 6, 0);
        bad(State.SOME, "plan", State.LANDED, 1, 1, 0, 5);
        bad(State.SOME, "away", State.LANDED, 0, 1);
        bad(State.SOME, "away", State.LANDED, 1, 0);
        bad(State.SOME, "chaser", 1, 1, 0);
        bad(State.SOME, "chaser", 1, 1, 6);
    }

    private static void badBeforeFull() {
        bad(State.FULL, "fly", 0, 0, -1, 1, 0, 0);
        bad(State.FULL, "fly", 6, 0, 0, 1, 0, 0);
        bad(State.FULL, "fly", 2, 3, 0, 201, 0, 0);
        bad(State.FULL, "go", State.WITH_FULL_LOG, -1, 1, 1);
        bad(State.FULL, "go", State.WITH_FULL_LOG, 0, 51, 1);
        bad(State.FULL, "go", State.WITH_FULL_LOG, 0, 1, 0);
        bad(State.FULL, "go", State.WITH_55_ENTRIES, 0, 1, 13);
        bad(State.FULL, "chaser", 6, 0, 1);
        bad(State.FULL, "chaser", 2, 2, 6);
    }

    private static void noBeforeFull() {
        no(State.FULL, "fly", 2, 3, 0, 1, 0, 0);
        no(State.FULL, "go", State.LANDED_AT_THE_LAST_ENTRY, 0, 1, 1);
        no(State.FULL, "go", State.LANDED_AT_THE_LAST_ENTRY, 2, 50, 12);
        no(State.FULL, "chaser", 1, 1, 1);
    }

    /** A PLAN that is not found leaves the latest one that was; there is nothing else that it could change. */
    private static void noneChangesNothing() {
        Probe.changesNothing(check, State.NEW, -1, "order", 0);
        Probe.changesNothing(check, State.NEW, -1, "record", 0);
        Probe.changesNothing(check, State.SOME, -1, "order", 4);
        Probe.changesNothing(check, State.SOME, -1, "entry", State.GOES, 2, 0);
        Probe.changesNothing(check, State.SOME, -1, "entry", State.GOES, 5, 0);
        Probe.changesNothing(check, State.SOME, -1, "entry", State.GOES, -1, 0);
        Probe.changesNothing(check, State.SOME, -1, "chase", 0, 1, 1);
        Probe.changesNothing(check, State.SOME, 0, "lose", State.GOES, 5, 60);
        Probe.changesNothing(check, State.SOME, 0, "lose", State.GOES, 2, 3);
    }

    private static void askingChangesNothing() {
        String[] ofAFlight = {"distance", "judge", "first"};
        for (int f = 0; f < State.FULL.flights; f++) {
            for (String call : ofAFlight) {
                asked(call, f);
            }
            asked("ways", f, 0);
            asked("ways", f, 1);
            asked("about", f, f);
            asked("entry", f, 1, 2);
            asked("record", f);
        }
        for (int what = 0; what <= 6; what++) {
            asked("count", what);
        }
        for (int c = 0; c < State.FULL.chasers; c++) {
            asked("chase", c, 5, 4);
        }
        asked("order", 0);
        asked("digest");
    }

    /** Whatever it answers, it answers the same again, and nothing else is otherwise. */
    private static void asked(String call, int... args) {
        Probe.changesNothing(check, State.FULL, State.FULL.made().ask(call, args), call, args);
    }
}
