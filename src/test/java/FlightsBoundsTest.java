/** Boundary cases of promises 7 to 10, beside those of RangesTest and TicksBoundsTest. */
public final class FlightsBoundsTest {
    private static final Check check = new Check();

    public static void main(String[] args) {
        beginsWithTheFirstAndLastNumbers();
        beginsAtLevelOne();
        closedLater();
        eightFlights();
        landedOnesCountToo();
        howManyWereDone();
        fewerIfItLanded();
        sixtyEntries();
        mightHaveAboveSixty();
        aboutOfTheFirstAndLastFlight();
        distanceOfEachDifference();
        distanceByEachSide();
        check.end("FlightsBoundsTest");
    }

    /** "with LOAD (1 .. 200), GAS (0 .. 500), BALLAST (0 .. 200)", "at a TICK (0 .. 23)": each with each. */
    private static void beginsWithTheFirstAndLastNumbers() {
        for (int ends = 0; ends < 64; ends++) {
            GasVoyages v = new GasVoyages();
            int x = (ends & 1) == 0 ? 0 : 11;
            int y = (ends & 2) == 0 ? 0 : 11;
            int tick = (ends & 4) == 0 ? 0 : 23;
            int load = (ends & 8) == 0 ? 1 : 200;
            int gas = (ends & 16) == 0 ? 0 : 500;
            int ballast = (ends & 32) == 0 ? 0 : 200;
            check.due("fly", v.fly(x, y, tick, load, gas, ballast), 0);
            int[] due = {x, y, 1, gas, ballast, tick, 0, 1, 13 * gas - 10 * (load + ballast), 0};
            for (int what = 0; what < due.length; what++) {
                check.due("about " + what + " of " + ends, v.about(0, what), due[what]);
            }
        }
    }

    /** "begin on a CELL, at LEVEL 1": also one without GAS has not LANDED before a TICK. */
    private static void beginsAtLevelOne() {
        GasVoyages v = new GasVoyages();
        v.level(1, 13, 0);
        v.fly(2, 3, 0, 200, 500, 200);
        check.due("level", v.about(0, 2), 1);
        check.due("gas above fullness does not go yet", v.about(0, 3), 500);
        check.due("it goes", v.count(3), 1);
        check.due("entry 0, x", v.entry(0, 0, 0), 2);
        check.due("entry 0, y", v.entry(0, 0, 1), 3);
        check.due("entry 0, level", v.entry(0, 0, 2), 1);
        check.due("no entry 1", v.entry(0, 1, 0), -1);
    }

    /** "NO: the CELL is CLOSED" when it begins; a FLIGHT that is there goes on. */
    private static void closedLater() {
        GasVoyages v = new GasVoyages();
        v.cell(4, 4, 2);
        check.due("closed", v.fly(4, 4, 0, 13, 10, 0), -3);
        v.cell(4, 4, 1);
        check.due("water", v.fly(4, 4, 0, 13, 10, 0), 0);
        v.cell(4, 4, 2);
        check.due("no second one", v.fly(4, 4, 0, 13, 10, 0), -3);
        check.due("the first goes on", v.go(0, 0, 1, 12), 12);
        v.cell(4, 4, 0);
        check.due("plain again", v.fly(4, 4, 0, 13, 10, 0), 1);
    }

    /** "FULL: 8". */
    private static void eightFlights() {
        GasVoyages v = new GasVoyages();
        for (int f = 0; f < 8; f++) {
            check.due("not there yet", v.about(f, 2), -100000);
            check.due("fly", v.fly(f, f, f, 13, 10, 0), f);
            check.due("as many", v.count(2), f + 1);
        }
        check.due("the ninth", v.fly(0, 0, 0, 13, 10, 0), -4);
        check.due("eight", v.count(2), 8);
        check.due("no flight 8", v.about(8, 2), -100000);
        check.due("the last one goes", v.go(7, 0, 1, 1), 1);
        check.due("no other one did", v.about(6, 7), 1);
    }

    private static void landedOnesCountToo() {
        GasVoyages v = new GasVoyages();
        for (int f = 0; f < 8; f++) {
            v.fly(0, 0, 0, 200, 0, 0);
            v.go(f, 0, 1, 1);
        }
        check.due("none goes", v.count(3), 0);
        check.due("eight all the same", v.fly(0, 0, 0, 1, 0, 0), -4);
    }

    /** "n TICKS (1 .. 12): how many were done". */
    private static void howManyWereDone() {
        for (int n = 1; n <= 12; n++) {
            GasVoyages v = new GasVoyages();
            v.fly(0, 0, 0, 13, 10, 0);
            check.due("done", v.go(0, 0, 1, n), n);
            check.due("its tick", v.about(0, 5), n);
            check.due("its entries", v.about(0, 7), n + 1);
        }
    }

    /** "(fewer, if it LANDED)": in the TICK before the last, in the last, and in none of them. */
    private static void fewerIfItLanded() {
        int[][] ticksAndDone = {{12, 7, 1}, {8, 7, 1}, {7, 7, 1}, {6, 6, 0}, {1, 1, 0}};
        for (int[] t : ticksAndDone) {
            GasVoyages v = new GasVoyages();
            v.fly(0, 0, 0, 1, 20, 0);
            v.go(0, 0, 1, 6);
            check.due("at 7", v.about(0, 2), 7);
            check.due("done of " + t[0], v.go(0, 2, 20, t[0]), t[1]);
            check.due("landed", v.about(0, 6), t[2]);
            check.due("level", v.about(0, 2), 7 - t[1]);
            check.due("its tick", v.about(0, 5), 6 + t[1]);
        }
    }

    /** "FULL: its LOG might have above 60 entries": for each n the last LOG that is short enough, and the next. */
    private static void sixtyEntries() {
        for (int n = 1; n <= 12; n++) {
            GasVoyages last = balancedWith(60 - n);
            check.due("up to 60 by " + n, last.go(0, 0, 1, n), n);
            check.due("60", last.about(0, 7), 60);
            check.due("the last entry", last.entry(0, 59, 2), 1);
            check.due("no more", last.go(0, 0, 1, 1), -4);
            GasVoyages next = balancedWith(61 - n);
            check.due("up to 61 by " + n, next.go(0, 0, 1, n), -4);
            check.due("none was done", next.about(0, 7), 61 - n);
        }
    }

    private static GasVoyages balancedWith(int entries) {
        GasVoyages v = new GasVoyages();
        v.fly(0, 0, 0, 13, 10, 0);
        for (int ticks = entries - 1; ticks > 0; ticks -= 12) {
            v.go(0, 0, 1, Math.min(12, ticks));
        }
        check.due("entries", v.about(0, 7), entries);
        return v;
    }

    /** It would LAND in the first of them; but its LOG might be too long. */
    private static void mightHaveAboveSixty() {
        GasVoyages v = balancedWith(50);
        check.due("eleven", v.go(0, 2, 50, 11), -4);
        check.due("its gas", v.about(0, 3), 10);
        check.due("ten, of which one is done", v.go(0, 2, 50, 10), 1);
        check.due("landed", v.about(0, 6), 1);
        check.due("51", v.about(0, 7), 51);
        check.due("goes no more", v.go(0, 2, 50, 11), -3);
    }

    /** "Of a FLIGHT" that is there, as each of its neighbours has other numbers; "BAD: -100000". */
    private static void aboutOfTheFirstAndLastFlight() {
        GasVoyages v = new GasVoyages();
        for (int f = 0; f < 8; f++) {
            v.fly(f, 11 - f, f, 1 + f, 10 * f, f);
        }
        for (int f = 0; f < 8; f++) {
            int[] due = {f, 11 - f, 1, 10 * f, f, f, 0, 1, 130 * f - 10 * (1 + 2 * f), 0};
            for (int what = 0; what < due.length; what++) {
                check.due("about " + what + " of flight " + f, v.about(f, what), due[what]);
            }
            check.due("below", v.about(f, -1), -100000);
            check.due("beyond", v.about(f, 10), -100000);
        }
        check.due("no such flight", v.about(-1, 0), -100000);
        check.due("no such flight", v.about(8, 0), -100000);
    }

    /** "the greatest whole number the square of which is no more than 10000 times the sum of the squares". */
    private static void distanceOfEachDifference() {
        for (int dx = 0; dx < 24; dx++) {
            for (int dy = 0; dy < 24; dy++) {
                int d = flown(0, 0, dx, dy);
                int square = 10000 * (dx * dx + dy * dy);
                check.holds("a root, " + dx + ", " + dy + ": " + d, d >= 0 && d * d <= square);
                check.holds("the greatest, " + dx + ", " + dy + ": " + d, (d + 1) * (d + 1) > square);
            }
        }
        check.due("none", flown(0, 0, 0, 0), 0);
        check.due("one step", flown(0, 0, 1, 0), 100);
        check.due("just a root", flown(0, 0, 3, 4), 500);
        check.due("just a root", flown(0, 0, 20, 21), 2900);
        check.due("1.41 and more", flown(0, 0, 1, 1), 141);
        check.due("the farthest", flown(0, 0, 23, 23), 3252);
    }

    private static void distanceByEachSide() {
        check.due("down and left", flown(23, 23, 0, 0), 3252);
        check.due("left", flown(23, 0, 0, 0), 2300);
        check.due("down", flown(0, 23, 0, 0), 2300);
        check.due("across", flown(23, 0, 0, 23), 3252);
    }

    private static int flown(int x, int y, int toX, int toY) {
        GasVoyages v = new GasVoyages();
        v.land(24, 24);
        v.fly(x, y, 0, 13, 10, 0);
        int ticks = Drift.lead(v, 0, x, y, toX, toY);
        if (ticks > 0) {
            v.go(0, 0, 1, ticks);
        }
        return v.about(0, 0) == toX && v.about(0, 1) == toY ? v.distance(0) : -1;
    }
}
