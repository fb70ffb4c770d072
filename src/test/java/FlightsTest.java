/** Promises 7 to 10: fly, go, about, distance, and what is done IN A TICK. */
public final class FlightsTest {
    private static final Check check = new Check();

    public static void main(String[] args) {
        flyTellsNumbers();
        flyRefusals();
        goRefusals();
        goFullLog();
        ordersSpendDoses();
        orderComesBeforeLift();
        balanceKeepsTheLevel();
        notAboveSeven();
        landingStopsIt();
        edgeOfTheLand();
        windOfTheNewLevel();
        aboutAll();
        distances();
        nothingOutlastsALand();
        check.end("FlightsTest");
    }

    private static void flyTellsNumbers() {
        GasVoyages v = new GasVoyages();
        for (int i = 0; i < 8; i++) {
            check.due("fly", v.fly(i, 11 - i, 3 * i, i + 1, 10 * i, i), i);
        }
        check.due("ninth", v.fly(0, 0, 0, 1, 0, 0), -4);
        v.cell(0, 0, 2);
        check.due("closed comes before full", v.fly(0, 0, 0, 1, 0, 0), -3);
        check.due("bad comes before closed", v.fly(0, 0, 0, 0, 0, 0), -2);
        check.due("flights", v.count(2), 8);
        check.due("those that go", v.count(3), 8);
        for (int i = 0; i < 8; i++) {
            int[] begun = {i, 11 - i, 1, 10 * i, i, 3 * i, 0, 1};
            for (int what = 0; what < begun.length; what++) {
                check.due("begun: about " + what, v.about(i, what), begun[what]);
            }
        }
    }

    private static void flyRefusals() {
        GasVoyages v = new GasVoyages();
        int[][] bad = {{-1, 0, 0, 1, 0, 0}, {12, 0, 0, 1, 0, 0}, {0, -1, 0, 1, 0, 0}, {0, 12, 0, 1, 0, 0},
            {0, 0, -1, 1, 0, 0}, {0, 0, 24, 1, 0, 0}, {0, 0, 0, 0, 0, 0}, {0, 0, 0, 201, 0, 0},
            {0, 0, 0, 1, -1, 0}, {0, 0, 0, 1, 501, 0}, {0, 0, 0, 1, 0, -1}, {0, 0, 0, 1, 0, 201}};
        for (int[] b : bad) {
            check.due("bad fly", v.fly(b[0], b[1], b[2], b[3], b[4], b[5]), -2);
        }
        check.due("none began", v.count(2), 0);
        v.cell(1, 1, 2);
        v.cell(2, 2, 1);
        check.due("closed", v.fly(1, 1, 0, 1, 0, 0), -3);
        check.due("water is no bar", v.fly(2, 2, 0, 1, 0, 0), 0);
        check.due("edges", v.fly(11, 11, 23, 200, 500, 200), 1);
    }

    private static void goRefusals() {
        GasVoyages v = new GasVoyages();
        v.fly(0, 0, 0, 200, 0, 0);
        int[][] bad = {{-1, 0, 1, 1}, {1, 0, 1, 1}, {0, -1, 1, 1}, {0, 3, 1, 1}, {0, 0, 0, 1}, {0, 0, 51, 1},
            {0, 0, 1, 0}, {0, 0, 1, 13}, {0, 0, 1, Integer.MAX_VALUE}, {Integer.MIN_VALUE, 0, 1, 1}};
        for (int[] b : bad) {
            check.due("bad go", v.go(b[0], b[1], b[2], b[3]), -2);
        }
        check.due("nothing was done", v.about(0, 7), 1);
        check.due("lands in one", v.go(0, 0, 50, 12), 1);
        check.due("goes no more", v.go(0, 0, 50, 12), -3);
        check.due("bad comes before no", v.go(0, 0, 51, 12), -2);
        check.due("its tick stays", v.about(0, 5), 1);
    }

    private static void goFullLog() {
        GasVoyages v = new GasVoyages();
        v.fly(0, 0, 0, 13, 10, 0);
        for (int i = 0; i < 4; i++) {
            check.due("twelve", v.go(0, 0, 1, 12), 12);
        }
        check.due("49 and 12", v.go(0, 0, 1, 12), -4);
        check.due("might have above 60, though it would land", v.go(0, 2, 50, 12), -4);
        check.due("refused changed no gas", v.about(0, 3), 10);
        check.due("49 and 11", v.go(0, 0, 1, 11), 11);
        check.due("60 entries", v.about(0, 7), 60);
        check.due("full", v.go(0, 0, 1, 1), -4);
        check.due("bad comes before full", v.go(0, 0, 0, 1), -2);
        check.due("last entry is there", v.entry(0, 59, 2), 1);
        check.due("no further", v.entry(0, 60, 2), -1);
        check.due("it goes still", v.count(3), 1);
        check.due("plans need no log", v.plan(0, 6, 1, 0, 0), 0);
    }

    private static void ordersSpendDoses() {
        GasVoyages v = new GasVoyages();
        v.fly(0, 0, 0, 100, 200, 7);
        v.go(0, 1, 3, 1);
        check.due("ballast one dose less", v.about(0, 4), 4);
        v.go(0, 1, 3, 1);
        v.go(0, 1, 3, 1);
        check.due("what there is, if less", v.about(0, 4), 0);
        v.go(0, 1, 50, 1);
        check.due("none is none", v.about(0, 4), 0);
        check.due("gas is not spent by 1", v.about(0, 3), 200);
        v.go(0, 0, 50, 1);
        check.due("nothing by 0", v.about(0, 3), 200);
        v.go(0, 2, 50, 3);
        check.due("gas in each tick", v.about(0, 3), 50);
        v.fly(0, 0, 0, 1, 30, 9);
        v.level(1, 0, 500);
        check.due("gas as much as there is", v.go(1, 2, 50, 1), 1);
        check.due("gas is none", v.about(1, 3), 0);
        check.due("ballast is not spent by 2", v.about(1, 4), 9);
        check.due("spent gas did not go by fullness", v.about(1, 9), 0);
    }

    private static void orderComesBeforeLift() {
        GasVoyages v = new GasVoyages();
        v.fly(0, 0, 0, 10, 10, 3);
        v.fly(0, 0, 0, 10, 10, 3);
        v.go(0, 1, 1, 1);
        check.due("lighter, so it rises", v.about(0, 2), 2);
        v.go(1, 2, 1, 1);
        check.due("less gas, so it falls", v.about(1, 2), 0);
        check.due("and landed", v.about(1, 6), 1);
    }

    private static void balanceKeepsTheLevel() {
        GasVoyages v = new GasVoyages();
        v.fly(0, 0, 0, 13, 10, 0);
        v.go(0, 0, 1, 12);
        check.due("balance", v.about(0, 2), 1);
        v.level(1, 14, 500);
        v.go(0, 0, 1, 1);
        check.due("above", v.about(0, 2), 2);
        v.go(0, 0, 1, 1);
        check.due("below: 120 against 130", v.about(0, 2), 1);
    }

    private static void notAboveSeven() {
        GasVoyages v = new GasVoyages();
        v.level(6, 8, 400);
        v.level(7, 7, 300);
        v.fly(0, 0, 0, 1, 500, 0);
        v.go(0, 0, 1, 5);
        check.due("level 6", v.about(0, 2), 6);
        check.due("fullness of 6", v.about(0, 3), 400);
        v.go(0, 0, 1, 5);
        check.due("level 7", v.about(0, 2), 7);
        check.due("fullness of 7", v.about(0, 3), 300);
        check.due("went in all", v.about(0, 9), 200);
        v.level(7, 7, 250);
        v.go(0, 0, 1, 1);
        check.due("fullness acts where the level stays", v.about(0, 3), 250);
    }

    private static void landingStopsIt() {
        GasVoyages v = new GasVoyages();
        v.wind(true, 1, 0, 23, 1, 0);
        v.wind(true, 2, 0, 23, 0, 1);
        v.cell(6, 6, 1);
        v.fly(5, 5, 22, 12, 10, 0);
        check.due("up", v.go(0, 0, 1, 1), 1);
        check.due("down twice", v.go(0, 2, 5, 12), 2);
        check.due("landed", v.about(0, 6), 1);
        check.due("level", v.about(0, 2), 0);
        check.due("x: no wind on the ground", v.about(0, 0), 6);
        check.due("y", v.about(0, 1), 6);
        check.due("the landing is a tick, too", v.about(0, 5), 25);
        check.due("entries", v.about(0, 7), 4);
        check.due("entry of the landing", v.entry(0, 3, 2), 0);
        check.due("gas is spent in ticks that are done alone", v.about(0, 3), 0);
        check.due("those that go", v.count(3), 0);
        check.due("flights", v.count(2), 1);
    }

    private static void edgeOfTheLand() {
        GasVoyages v = new GasVoyages();
        v.land(4, 6);
        v.wind(true, 1, 0, 23, 2, 1);
        v.fly(1, 4, 0, 13, 10, 0);
        v.go(0, 0, 1, 1);
        check.due("x", v.about(0, 0), 3);
        check.due("y", v.about(0, 1), 5);
        v.wind(true, 1, 0, 23, 1, -1);
        v.go(0, 0, 1, 1);
        check.due("beyond by x: neither moves, x", v.about(0, 0), 3);
        check.due("beyond by x: neither moves, y", v.about(0, 1), 5);
        v.wind(true, 1, 0, 23, -1, 1);
        v.go(0, 0, 1, 1);
        check.due("beyond by y: neither moves, x", v.about(0, 0), 3);
        check.due("beyond by y: neither moves, y", v.about(0, 1), 5);
        v.wind(true, 1, 0, 23, -2, -2);
        v.go(0, 0, 1, 3);
        check.due("below 0 by x, x", v.about(0, 0), 1);
        check.due("below 0 by x, y", v.about(0, 1), 3);
    }

    private static void windOfTheNewLevel() {
        GasVoyages v = new GasVoyages();
        v.wind(true, 1, 0, 23, 1, 0);
        v.wind(true, 2, 7, 7, 0, 1);
        v.wind(true, 2, 8, 8, -1, 0);
        v.fly(5, 5, 7, 1, 100, 0);
        v.go(0, 0, 1, 1);
        check.due("wind of level 2, x", v.about(0, 0), 5);
        check.due("wind of the hour before the tick is one more, y", v.about(0, 1), 6);
    }

    private static void aboutAll() {
        GasVoyages v = new GasVoyages();
        v.level(2, 12, 90);
        v.warmth(11, -2);
        v.wind(true, 2, 10, 10, 2, -1);
        v.fly(3, 4, 10, 20, 100, 30);
        v.go(0, 1, 6, 1);
        int[] told = {5, 3, 2, 90, 24, 11, 0, 2, 90 * 10 - 440, 10};
        for (int what = 0; what < told.length; what++) {
            check.due("about " + what, v.about(0, what), told[what]);
        }
        int[][] bad = {{0, -1}, {0, 10}, {-1, 0}, {1, 0}, {8, 0}, {Integer.MAX_VALUE, 0}, {0, Integer.MIN_VALUE}};
        for (int[] b : bad) {
            check.due("bad about", v.about(b[0], b[1]), -100000);
        }
    }

    private static void distances() {
        GasVoyages v = new GasVoyages();
        v.land(24, 24);
        v.fly(0, 0, 0, 13, 10, 0);
        check.due("none yet", v.distance(0), 0);
        int x = 0;
        int y = 0;
        int[][] steps = {{1, 0}, {0, 1}, {2, 0}, {0, 2}, {2, 2}, {2, 1}, {1, 2}, {-1, 2}, {2, 2}, {2, 2}, {2, 2}, {2, 2}, {2, 2}, {2, 2}};
        for (int[] s : steps) {
            v.wind(true, 1, 0, 23, s[0], s[1]);
            v.go(0, 0, 1, 1);
            x += x + s[0] < 24 && y + s[1] < 24 ? s[0] : 0;
            y = v.about(0, 1);
            int square = 10000 * (x * x + y * y);
            int d = v.distance(0);
            check.due("x", v.about(0, 0), x);
            check.holds("greatest root of " + square + ": " + d, d * d <= square && (d + 1) * (d + 1) > square);
        }
        check.due("no flight", v.distance(1), -2);
        check.due("no flight", v.distance(-1), -2);
        farthest();
    }

    private static void farthest() {
        GasVoyages v = new GasVoyages();
        v.land(24, 24);
        v.wind(true, 1, 0, 10, 2, 2);
        v.wind(true, 1, 11, 11, 1, 1);
        v.fly(0, 0, 0, 13, 10, 0);
        v.go(0, 0, 1, 12);
        check.due("corner to corner", v.distance(0), 3252);
    }

    private static void nothingOutlastsALand() {
        GasVoyages v = new GasVoyages();
        v.level(0, 14, 3);
        v.fly(1, 1, 4, 200, 10, 9);
        v.go(0, 1, 2, 1);
        check.due("landed", v.about(0, 6), 1);
        check.due("went", v.about(0, 9), 7);
        v.land(12, 12);
        v.fly(2, 3, 5, 13, 10, 1);
        int[] begun = {2, 3, 1, 10, 1, 5, 0, 1, -10, 0};
        for (int what = 0; what < begun.length; what++) {
            check.due("begun anew: about " + what, v.about(0, what), begun[what]);
        }
        check.due("goes", v.go(0, 1, 1, 2), 2);
        check.due("from where it began", v.distance(0), 0);
    }
}
