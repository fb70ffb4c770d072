/** Promises 14 to 17: entry, lose, judge, ways. */
public final class LogsTest {
    private static final Check check = new Check();

    public static void main(String[] args) {
        entries();
        losing();
        lossesDoNotOutlastAFlight();
        refusals();
        knownLog();
        windsAsTheyAreNow();
        groundEndsAWay();
        landedOrNot();
        levelSeven();
        hourOfTheTick();
        doubt();
        breachThroughAGap();
        brokenByAnyEntry();
        knownEntryBehindAGap();
        atMostAMillion();
        edgeOfTheLand();
        check.end("LogsTest");
    }

    private static GasVoyages level() {
        GasVoyages v = new GasVoyages();
        v.fly(5, 5, 0, 13, 10, 0);
        return v;
    }

    private static void verdict(String what, GasVoyages v, int judged, int all, int broken) {
        check.due(what + ": judge", v.judge(0), judged);
        check.due(what + ": ways", v.ways(0, false), all);
        check.due(what + ": broken ways", v.ways(0, true), broken);
    }

    private static void entries() {
        GasVoyages v = level();
        v.wind(true, 1, 0, 23, 1, 2);
        v.go(0, 0, 1, 3);
        int[][] due = {{5, 5, 1}, {6, 7, 1}, {7, 9, 1}, {8, 11, 1}};
        for (int i = 0; i < due.length; i++) {
            for (int what = 0; what < 3; what++) {
                check.due("entry " + i + ", " + what, v.entry(0, i, what), due[i][what]);
            }
        }
        check.due("not so many", v.entry(0, 4, 0), -1);
        check.due("not so many", v.entry(0, 60, 0), -1);
        check.due("not so many", v.entry(0, Integer.MAX_VALUE, 0), -1);
        int[] belowFirst = {-1, -2, -60, Integer.MIN_VALUE};
        for (int i : belowFirst) {
            for (int what = 0; what < 3; what++) {
                check.due("below the first, " + i + ", " + what, v.entry(0, i, what), -1);
            }
        }
        // A FLIGHT that is not there and a what that is not told are BAD, whatever i is.
        int[][] bad = {{1, 0, 0}, {-1, 0, 0}, {0, 0, -1}, {0, 0, 3}, {0, 99, 3}, {8, 0, 0}, {0, -1, 3}, {0, -1, -1},
            {1, -1, 0}, {-1, -1, 0}, {0, Integer.MIN_VALUE, 3}};
        for (int[] b : bad) {
            check.due("bad entry", v.entry(b[0], b[1], b[2]), -2);
        }
    }

    private static void losing() {
        GasVoyages v = level();
        v.go(0, 0, 1, 6);
        check.due("one", v.lose(0, 3, 3), 1);
        check.due("those that were not", v.lose(0, 2, 4), 2);
        check.due("lost", v.entry(0, 3, 0), -1);
        check.due("lost", v.entry(0, 4, 2), -1);
        check.due("not lost", v.entry(0, 5, 2), 1);
        check.due("again", v.lose(0, 2, 4), 0);
        check.due("in all", v.count(6), 3);
        check.due("those that there are", v.lose(0, 6, Integer.MAX_VALUE), 1);
        check.due("beyond the end", v.lose(0, 7, 7), 0);
        check.due("far beyond", v.lose(0, Integer.MAX_VALUE, Integer.MAX_VALUE), 0);
        check.due("in all", v.count(6), 4);
        v.go(0, 0, 1, 1);
        check.due("a new entry is not lost", v.entry(0, 7, 2), 1);
        check.due("entries stay as many", v.about(0, 7), 8);
        int[][] bad = {{0, 0, 1}, {0, 0, 0}, {0, -1, 3}, {0, 3, 2}, {1, 1, 1}, {-1, 1, 1}, {0, 1, Integer.MIN_VALUE}};
        for (int[] b : bad) {
            check.due("bad lose", v.lose(b[0], b[1], b[2]), -2);
        }
        check.due("refused changed nothing", v.count(6), 4);
        check.due("the first can't be lost", v.entry(0, 0, 0), 5);
    }

    private static void lossesDoNotOutlastAFlight() {
        GasVoyages v = level();
        v.go(0, 0, 1, 6);
        v.lose(0, 1, 6);
        v.land(12, 12);
        v.fly(5, 5, 0, 13, 10, 0);
        check.due("none lost", v.count(6), 0);
        v.go(0, 0, 1, 6);
        check.due("entry of the new flight", v.entry(0, 3, 0), 5);
        verdict("new flight", v, 0, 1, 0);
    }

    private static void refusals() {
        GasVoyages v = level();
        int[] bad = {-1, 1, 7, 8, Integer.MIN_VALUE, Integer.MAX_VALUE};
        for (int b : bad) {
            check.due("bad judge", v.judge(b), -2);
            check.due("bad ways", v.ways(b, false), -2);
            check.due("bad broken ways", v.ways(b, true), -2);
        }
    }

    private static void knownLog() {
        GasVoyages v = level();
        verdict("the first entry alone", v, 0, 1, 0);
        v.wind(true, 1, 0, 23, 1, 0);
        v.go(0, 0, 1, 4);
        verdict("known", v, 0, 1, 0);
        v.cell(7, 5, 2);
        verdict("closed behind it", v, 2, 1, 1);
        v.cell(7, 5, 1);
        verdict("water is no breach", v, 0, 1, 0);
        v.cell(5, 5, 2);
        verdict("where it began", v, 2, 1, 1);
        v.cell(5, 5, 0);
        v.cell(9, 5, 2);
        verdict("where it is", v, 2, 1, 1);
    }

    private static void windsAsTheyAreNow() {
        GasVoyages v = level();
        v.go(0, 0, 1, 2);
        v.wind(true, 1, 1, 1, 1, 0);
        verdict("no way", v, 1, 0, 0);
        v.cell(5, 5, 2);
        verdict("no way, though closed", v, 1, 0, 0);
        v.wind(true, 1, 1, 1, 0, 0);
        v.wind(false, 1, 0, 23, 1, 1);
        verdict("the forecast is nothing to it", v, 2, 1, 1);
        v.cell(5, 5, 0);
        v.warmth(0, 20);
        v.level(1, 0, 0);
        verdict("nor are warmth and density", v, 0, 1, 0);
    }

    private static void groundEndsAWay() {
        GasVoyages v = level();
        v.go(0, 0, 1, 3);
        v.lose(0, 1, 1);
        // 1, then 1 or 2, then 1, 1: a 0 behind the first has further entries.
        verdict("inner gap", v, 0, 2, 0);
        v.lose(0, 1, 3);
        // Behind 1, 1: 0, 1, 2; 1, 2: 1, 2, 3; and so on: 3 levels from each of 1 2 / 1 2 3.
        verdict("open end", v, 0, 3 + 3 + 3 + 3 + 3, 0);
    }

    private static void landedOrNot() {
        GasVoyages v = level();
        v.go(0, 2, 5, 1);
        check.due("landed", v.about(0, 6), 1);
        verdict("landing known", v, 0, 1, 0);
        v.lose(0, 1, 1);
        verdict("landing lost: any level", v, 0, 3, 0);
        v.wind(true, 1, 0, 0, 1, 1);
        v.cell(6, 6, 2);
        verdict("one of them breaks", v, 1, 3, 1);
        v.wind(true, 2, 0, 0, 1, 1);
        verdict("two of them break", v, 1, 3, 2);
        v.cell(5, 5, 2);
        verdict("all break", v, 2, 3, 3);
    }

    private static void levelSeven() {
        GasVoyages v = new GasVoyages();
        v.fly(5, 5, 0, 1, 100, 0);
        v.go(0, 0, 1, 8);
        v.lose(0, 7, 7);
        // 7 .. 7: between them 6 or 7, not 8.
        verdict("top", v, 0, 2, 0);
        v.lose(0, 8, 8);
        // 6: 5, 6, 7; 7: 6, 7.
        verdict("top, open end", v, 0, 5, 0);
    }

    private static void hourOfTheTick() {
        GasVoyages v = new GasVoyages();
        v.wind(true, 1, 23, 23, 1, 0);
        v.wind(true, 1, 0, 0, 0, 1);
        v.fly(5, 5, 22, 13, 10, 0);
        v.go(0, 0, 1, 3);
        verdict("over midnight", v, 0, 1, 0);
        v.lose(0, 2, 2);
        // At the lost entry LEVEL 1 stands on 6, 5 and LEVEL 2 on 5, 5; only the first leads to 6, 6.
        verdict("over midnight with a gap", v, 0, 1, 0);
        v.cell(5, 5, 2);
        verdict("began on closed", v, 2, 1, 1);
    }

    private static void doubt() {
        GasVoyages v = level();
        v.go(0, 0, 1, 2);
        v.lose(0, 1, 2);
        v.wind(true, 2, 0, 23, 1, 0);
        v.cell(6, 5, 2);
        // 1 1 0, 1 1 1 are clean; 1 1 2, 1 2 1, 1 2 2, 1 2 3 touch 6, 5.
        verdict("doubt", v, 1, 6, 4);
        v.cell(6, 5, 1);
        verdict("no doubt on water", v, 0, 6, 0);
    }

    private static void breachThroughAGap() {
        GasVoyages v = level();
        v.wind(true, 1, 0, 23, 1, 0);
        v.wind(true, 2, 0, 23, 1, 0);
        v.go(0, 0, 1, 2);
        v.lose(0, 1, 1);
        verdict("gap", v, 0, 2, 0);
        v.cell(6, 5, 2);
        verdict("every way through it breaks", v, 2, 2, 2);
    }

    private static void brokenByAnyEntry() {
        GasVoyages v = level();
        v.wind(true, 1, 0, 23, 1, 0);
        v.go(0, 0, 1, 3);
        v.cell(6, 5, 2);
        v.cell(8, 5, 2);
        verdict("two closed cells break one way once", v, 2, 1, 1);
        v.cell(6, 5, 0);
        verdict("one of them is enough", v, 2, 1, 1);
    }

    private static void knownEntryBehindAGap() {
        GasVoyages v = level();
        v.wind(true, 2, 0, 23, 1, 0);
        v.go(0, 0, 1, 4);
        v.lose(0, 1, 3);
        v.cell(6, 5, 2);
        // Once it is off to 6, 5 it can't come back, so no way to the known end breaks.
        verdict("ways that lead elsewhere do not count", v, 0, 1, 0);
        v.wind(true, 3, 0, 23, -1, 0);
        // 1 2 3 2 1 ends on 6, 5: no row but 1 1 1 1 1 ends on 5, 5.
        verdict("still", v, 0, 1, 0);
        v.wind(true, 1, 3, 3, -1, 0);
        // Now the last TICK leads from 6, 5 to 5, 5: behind 1 1 2, 1 2 1, 2 1 1, 2 3 2.
        verdict("all break", v, 2, 4, 4);
    }

    private static void atMostAMillion() {
        GasVoyages v = level();
        for (int i = 0; i < 4; i++) {
            v.go(0, 0, 1, 12);
        }
        v.go(0, 0, 1, 11);
        v.lose(0, 1, 59);
        verdict("a million", v, 0, 1000000, 0);
        v.cell(5, 5, 2);
        verdict("a million broken", v, 2, 1000000, 1000000);
        v.cell(5, 5, 0);
        v.wind(true, 5, 0, 23, 1, 1);
        v.cell(6, 6, 2);
        verdict("a million of both", v, 1, 1000000, 1000000);
        lastBelowAMillion();
    }

    private static void lastBelowAMillion() {
        // Rows of LEVELS 1 .. 7 from 1, the last from 0 on, counted here in longs.
        long[] at = new long[9];
        at[1] = 1;
        GasVoyages v = level();
        for (int n = 1; n <= 20; n++) {
            v.go(0, 0, 1, 1);
            v.lose(0, n, n);
            long[] next = new long[9];
            long all = 0;
            for (int l = 0; l <= 7; l++) {
                next[l] = (l > 1 ? at[l - 1] : 0) + (l > 0 ? at[l] : 0) + at[l + 1];
                all += next[l];
            }
            next[8] = 0;
            check.due("ways through " + n, v.ways(0, false), Math.min(1000000, all));
            next[0] = 0;
            at = next;
        }
    }

    private static void edgeOfTheLand() {
        GasVoyages v = new GasVoyages();
        v.land(4, 4);
        v.wind(true, 1, 0, 23, 2, 0);
        v.wind(true, 2, 0, 23, 2, 2);
        v.fly(2, 2, 0, 13, 10, 0);
        v.go(0, 0, 1, 2);
        v.lose(0, 1, 1);
        verdict("it stays in a way, too", v, 0, 2, 0);
        v.cell(2, 2, 2);
        verdict("on its cell", v, 2, 2, 2);
    }
}
