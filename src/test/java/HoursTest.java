/** "TICKS are hours: that of TICK t is t left over by 24": hours go on past 23 wherever the hour of a TICK counts. */
public final class HoursTest {
    private static final int LAST_TICK = 23 + 59;
    private static final Check check = new Check();

    public static void main(String[] args) {
        ticksGoOn();
        warmthByHour();
        warmthLiftsAtItsHourAlone();
        realWindByHour();
        forecastByHour();
        forecastOverMidnight();
        warmthInPlansOverMidnight();
        waysByHour();
        waysThroughAGapOverMidnight();
        check.end("HoursTest");
    }

    /** A TICK is no hour: it does not begin again at 0. */
    private static void ticksGoOn() {
        GasVoyages v = atTheTop(23);
        for (int tick = 24; tick <= LAST_TICK; tick++) {
            check.due("goes", v.go(0, 0, 1, 1), 1);
            check.due("tick", v.about(0, 5), tick);
        }
        check.due("its log is full", v.go(0, 0, 1, 1), -4);
        check.due("the greatest tick that there is", v.about(0, 5), 82);
    }

    /** LIFT is above WEIGHT at each hour, so that from TICK 6 on it is at LEVEL 7. */
    private static GasVoyages atTheTop(int tick) {
        GasVoyages v = new GasVoyages();
        v.land(24, 24);
        for (int l = 1; l <= 7; l++) {
            v.level(l, 50, 500);
        }
        v.fly(3, 4, tick, 1, 500, 0);
        return v;
    }

    private static void warmthByHour() {
        GasVoyages v = atTheTop(23);
        for (int hour = 0; hour < 24; hour++) {
            v.warmth(hour, hour - 12);
        }
        for (int tick = 23; tick <= LAST_TICK; tick++) {
            check.due("lift less weight at tick " + tick, v.about(0, 8), 500 * (50 + tick % 24 - 12) - 10);
            v.go(0, 0, 1, 1);
        }
    }

    /** In balance at all hours but one: it rises at that hour's TICKS alone. */
    private static void warmthLiftsAtItsHourAlone() {
        for (int hour : new int[] {0, 1, 22, 23}) {
            GasVoyages v = new GasVoyages();
            for (int l = 1; l <= 7; l++) {
                v.level(l, 10, 500);
            }
            v.warmth(hour, 1);
            v.fly(0, 0, 23, 10, 10, 0);
            int level = 1;
            for (int tick = 23; tick < LAST_TICK; tick++) {
                v.go(0, 0, 1, 1);
                level += tick % 24 == hour ? 1 : 0;
                check.due("level behind tick " + tick + ", warm at " + hour, v.about(0, 2), level);
            }
        }
    }

    private static void realWindByHour() {
        for (int hour : new int[] {0, 1, 22, 23}) {
            GasVoyages v = new GasVoyages();
            v.wind(true, 1, hour, hour, 1, 2);
            v.fly(0, 0, 23, 13, 10, 0);
            int steps = 0;
            for (int tick = 23; tick < LAST_TICK; tick++) {
                v.go(0, 0, 1, 1);
                steps += tick % 24 == hour ? 1 : 0;
                check.due("x behind tick " + tick + ", wind at " + hour, v.about(0, 0), steps);
                check.due("y behind tick " + tick + ", wind at " + hour, v.about(0, 1), 2 * steps);
            }
        }
    }

    /** A PLAN of one TICK at each TICK that a FLIGHT may be at. */
    private static void forecastByHour() {
        for (int hour : new int[] {0, 1, 22, 23}) {
            GasVoyages v = new GasVoyages();
            v.wind(false, 1, hour, hour, 1, 0);
            v.fly(0, 0, 23, 13, 10, 0);
            for (int tick = 23; tick < LAST_TICK; tick++) {
                int due = tick % 24 == hour ? 0 : 1;
                check.due("plan at tick " + tick + ", wind at " + hour, v.plan(0, 1, 1, 1, 0), due);
                v.go(0, 0, 1, 1);
            }
        }
    }

    /** A PLAN of six TICKS, from each hour: as many steps as it has TICKS at 22 to 1. */
    private static void forecastOverMidnight() {
        for (int tick = 0; tick < 24; tick++) {
            GasVoyages v = new GasVoyages();
            v.wind(false, 1, 22, 23, 1, 0);
            v.wind(false, 1, 0, 1, 1, 0);
            v.fly(0, 0, tick, 13, 10, 0);
            int steps = 0;
            for (int t = tick; t < tick + 6; t++) {
                steps += (t + 2) % 24 < 4 ? 1 : 0;
            }
            check.due("six ticks from " + tick, v.away(0, 6, 1), steps * steps);
        }
    }

    private static void warmthInPlansOverMidnight() {
        GasVoyages v = new GasVoyages();
        v.warmth(0, -14);
        v.wind(false, 1, 0, 23, 1, 0);
        v.fly(0, 0, 22, 13, 10, 0);
        // Two steps at 22 and 23; at TICK 24 the cold of hour 0 brings it down.
        check.due("two ticks", v.away(0, 2, 1), 4);
        check.due("three ticks", v.away(0, 3, 1), 4);
        check.due("six ticks", v.away(0, 6, 1), 4);
    }

    /** The LOG of a FLIGHT of 59 TICKS is a WAY as long as the winds of all their hours are those it went by. */
    private static void waysByHour() {
        GasVoyages v = new GasVoyages();
        v.wind(true, 1, 0, 0, 1, 0);
        v.wind(true, 1, 23, 23, 0, 1);
        v.fly(0, 0, 23, 13, 10, 0);
        for (int i = 0; i < 4; i++) {
            v.go(0, 0, 1, 12);
        }
        v.go(0, 0, 1, 11);
        check.due("its way", v.ways(0, false), 1);
        for (int hour = 0; hour < 24; hour++) {
            v.wind(true, 1, hour, hour, 2, 2);
            check.due("none with other winds at " + hour, v.ways(0, false), 0);
            check.due("a doubt", v.judge(0), 1);
            v.wind(true, 1, hour, hour, hour == 0 ? 1 : 0, hour == 23 ? 1 : 0);
            check.due("its way again", v.ways(0, false), 1);
        }
    }

    private static void waysThroughAGapOverMidnight() {
        for (int tick = 20; tick <= 23; tick++) {
            GasVoyages v = new GasVoyages();
            v.fly(5, 5, tick, 13, 10, 0);
            v.go(0, 0, 1, 6);
            v.lose(0, 1, 5);
            v.wind(true, 1, 0, 0, 1, 0);
            v.wind(true, 2, 0, 0, 1, 0);
            v.wind(true, 1, 1, 1, -1, 0);
            v.wind(true, 2, 1, 1, -1, 0);
            v.wind(true, 3, 0, 23, 0, 1);
            int all = v.ways(0, false);
            check.holds("some ways from " + tick, all > 0);
            v.cell(6, 5, 2);
            // Behind TICK 24 each of them stands on 6, 5: LEVELS 1 and 2 both lead there.
            check.due("all broken, from " + tick, v.ways(0, true), all);
            check.due("a breach, from " + tick, v.judge(0), 2);
        }
    }
}
