/** The states that calls are tried in: one just made, one with some of everything, one in which all is full. */
enum State {
    NEW(12, 12, 0, 0), SOME(6, 5, 3, 2), FULL(6, 5, 8, 4);

    // FLIGHTS of SOME and FULL; from WITH_FULL_LOG on those of FULL alone.
    static final int GOES = 0, LANDED = 1, WITH_FULL_LOG = 3, LANDED_AT_THE_LAST_ENTRY = 4, WITH_55_ENTRIES = 6;

    final int w, h, flights, chasers;

    State(int w, int h, int flights, int chasers) {
        this.w = w;
        this.h = h;
        this.flights = flights;
        this.chasers = chasers;
    }

    Asked made() {
        Asked v = new Asked();
        if (this != NEW) {
            fillAir(v);
            fillLand(v);
            fillFlights(v);
        }
        if (this == FULL) {
            fillUp(v);
        }
        if (this != NEW) {
            v.ask("plan", GOES, 4, 2, 5, 0);
        }
        return v;
    }

    /** No two LEVELS alike, LIFT above what the balloons below weigh as long as they have GAS. */
    private static void fillAir(Asked v) {
        for (int l = 0; l <= 7; l++) {
            v.ask("level", l, 20 - l, 480 - 20 * l);
        }
        for (int hour = 0; hour < 24; hour++) {
            v.ask("warmth", hour, hour * 7 % 11 - 5);
        }
        for (int real = 0; real <= 1; real++) {
            for (int l = 1; l <= 7; l++) {
                for (int six = 0; six < 4; six++) {
                    v.ask("wind", real, l, 6 * six, 6 * six + 5, (l + six + real) % 3 - 1, (2 * l + six) % 3 - 1);
                }
                v.ask("wind", real, l, 3 * l, 3 * l, 2, -2);
            }
        }
    }

    private static void fillLand(Asked v) {
        v.ask("land", 6, 5);
        v.ask("cell", 1, 1, 1);
        v.ask("cell", 4, 0, 1);
        v.ask("cell", 2, 3, 2);
        v.ask("cell", 5, 4, 2);
        v.ask("chaser", 0, 0, 2);
        v.ask("chaser", 3, 2, 3);
    }

    private static void fillFlights(Asked v) {
        v.ask("fly", 2, 2, 5, 10, 400, 20);
        v.ask("go", 0, 1, 3, 4);
        v.ask("lose", 0, 2, 3);
        v.ask("fly", 3, 1, 22, 200, 10, 30);
        v.ask("go", 1, 0, 1, 1);
        v.ask("fly", 1, 3, 23, 5, 300, 9);
        v.ask("go", 2, 2, 7, 3);
    }

    private static void fillUp(Asked v) {
        v.ask("fly", 0, 1, 1, 10, 400, 200);
        goOn(v, 3, 59);
        v.ask("lose", 3, 5, 50);
        v.ask("fly", 4, 3, 2, 30, 60, 0);
        goOn(v, 4, 52);
        v.ask("go", 4, 2, 50, 7);
        v.ask("fly", 5, 0, 3, 10, 20, 5);
        v.ask("fly", 4, 4, 4, 10, 400, 60);
        goOn(v, 6, 54);
        v.ask("fly", 0, 4, 5, 10, 400, 60);
        v.ask("chaser", 5, 0, 1);
        v.ask("chaser", 0, 4, 5);
    }

    private static void goOn(Asked v, int flight, int ticks) {
        for (int done = 0; done < ticks; done += 12) {
            v.ask("go", flight, 0, 1, Math.min(12, ticks - done));
        }
    }
}
