/** Boundary cases of promises 14 to 17 and of WAYS through a LOG, beside those of RangesTest and HoursTest. */
public final class LogsBoundsTest {
    private static final Check check = new Check();

    public static void main(String[] args) {
        entriesFirstAndLast();
        entriesOfAFullLog();
        lostEntry();
        badBeforeNone();
        loseFirstAndLast();
        loseWhereThereIsNone();
        loseTheWholeLog();
        loseAgain();
        loseOfOneFlightAlone();
        firstEntryIsNeverLost();
        wayOfTheFirstEntry();
        noWays();
        clearDoubtBreach();
        oneOfManyBroken();
        oneOfManyNotBroken();
        levelChangesByOneAtMost();
        notAboveSeven();
        behindAZeroNoFurtherEntry();
        lostLandingAndLostFlight();
        stayBeyondTheLand();
        groundStays();
        groundInTheCorners();
        closedWithWhateverLevel();
        aMillionAtMost();
        cellsAndWindsAsTheyAreNow();
        check.end("LogsBoundsTest");
    }

    private static void verdict(String told, GasVoyages v, int judged, int all, int broken) {
        check.due(told + ": judge", v.judge(0), judged);
        check.due(told + ": ways", v.ways(0, false), all);
        check.due(told + ": broken ways", v.ways(0, true), broken);
    }

    /** A FLIGHT in balance on 5, 5 at LEVEL 1 from TICK 0 on, with that many TICKS behind it. */
    private static GasVoyages held(int ticks) {
        GasVoyages v = new GasVoyages();
        v.fly(5, 5, 0, 13, 10, 0);
        goOn(v, ticks);
        return v;
    }

    private static void goOn(GasVoyages v, int ticks) {
        for (int left = ticks; left > 0; left -= 12) {
            v.go(0, 0, 1, Math.min(12, left));
        }
    }

    private static void noEntry(GasVoyages v, int i) {
        for (int what = 0; what <= 2; what++) {
            check.due("no entry " + i + ", " + what, v.entry(0, i, what), -1);
        }
    }

    private static void entryIs(GasVoyages v, int i, int x, int y, int level) {
        check.due("entry " + i + ", x", v.entry(0, i, 0), x);
        check.due("entry " + i + ", y", v.entry(0, i, 1), y);
        check.due("entry " + i + ", level", v.entry(0, i, 2), level);
    }

    /** "Entry i of a LOG. NONE: not so many." */
    private static void entriesFirstAndLast() {
        for (int ticks = 0; ticks <= 3; ticks++) {
            GasVoyages v = held(ticks);
            entryIs(v, 0, 5, 5, 1);
            entryIs(v, ticks, 5, 5, 1);
            int[] none = {Integer.MIN_VALUE, -2, -1, ticks + 1, ticks + 2, 59, 60, 61, Integer.MAX_VALUE};
            for (int i : none) {
                noEntry(v, i);
            }
        }
    }

    private static void entriesOfAFullLog() {
        GasVoyages v = new GasVoyages();
        v.wind(true, 1, 23, 23, 1, 2);
        v.fly(0, 0, 13, 13, 10, 0);
        goOn(v, 59);
        // Hour 23 comes in TICKS 23, 47, 71: behind them entries 11, 35, 59 are others than those before.
        int[][] due = {{0, 0, 0}, {10, 0, 0}, {11, 1, 2}, {34, 1, 2}, {35, 2, 4}, {58, 2, 4}, {59, 3, 6}};
        for (int[] d : due) {
            entryIs(v, d[0], d[1], d[2], 1);
        }
        noEntry(v, 60);
        noEntry(v, -1);
    }

    /** "NONE: LOST". */
    private static void lostEntry() {
        GasVoyages v = held(4);
        v.lose(0, 2, 3);
        entryIs(v, 1, 5, 5, 1);
        noEntry(v, 2);
        noEntry(v, 3);
        entryIs(v, 4, 5, 5, 1);
        check.due("lost ones are entries, too", v.about(0, 7), 5);
    }

    /** "the first of: BAD": a FLIGHT or what that is not there, at an entry that is not there either. */
    private static void badBeforeNone() {
        GasVoyages v = held(2);
        v.lose(0, 1, 1);
        for (int i : new int[] {-1, 1, 3, Integer.MAX_VALUE}) {
            check.due("no such what, entry " + i, v.entry(0, i, 3), -2);
            check.due("no such what, entry " + i, v.entry(0, i, -1), -2);
            check.due("no such flight, entry " + i, v.entry(1, i, 0), -2);
            check.due("no such flight, entry " + i, v.entry(-1, i, 0), -2);
        }
    }

    /** "Entries from .. to are LOST (those that there are): how many were not." */
    private static void loseFirstAndLast() {
        int[][] fromToLost = {{1, 1, 1}, {4, 4, 1}, {5, 5, 0}, {1, 4, 4}, {1, 5, 4}, {4, 5, 1}, {3, 4, 2},
            {1, Integer.MAX_VALUE, 4}, {4, Integer.MAX_VALUE, 1}, {Integer.MAX_VALUE, Integer.MAX_VALUE, 0}};
        for (int[] l : fromToLost) {
            GasVoyages v = held(4);
            check.due("lose " + l[0] + " to " + l[1], v.lose(0, l[0], l[1]), l[2]);
            check.due("lost in all", v.count(6), l[2]);
            for (int i = 0; i <= 4; i++) {
                check.due("entry " + i, v.entry(0, i, 2), i >= l[0] && i <= l[1] ? -1 : 1);
            }
        }
    }

    private static void loseWhereThereIsNone() {
        GasVoyages v = held(0);
        check.due("the first entry alone", v.lose(0, 1, 1), 0);
        check.due("the first entry alone", v.lose(0, 1, 60), 0);
        check.due("none lost", v.count(6), 0);
        v.go(0, 0, 1, 1);
        entryIs(v, 1, 5, 5, 1);
        check.due("now there is one", v.lose(0, 1, 60), 1);
    }

    private static void loseTheWholeLog() {
        GasVoyages v = held(59);
        check.due("the last", v.lose(0, 59, 59), 1);
        check.due("none behind it", v.lose(0, 60, 60), 0);
        check.due("all others", v.lose(0, 1, 59), 58);
        check.due("in all", v.count(6), 59);
        entryIs(v, 0, 5, 5, 1);
        for (int i = 1; i <= 59; i++) {
            check.due("lost", v.entry(0, i, 2), -1);
        }
    }

    private static void loseAgain() {
        GasVoyages v = held(6);
        check.due("two", v.lose(0, 2, 3), 2);
        check.due("the same", v.lose(0, 2, 3), 0);
        check.due("one beside them", v.lose(0, 3, 4), 1);
        check.due("one before them", v.lose(0, 1, 2), 1);
        check.due("the rest", v.lose(0, 1, 6), 2);
        check.due("six", v.count(6), 6);
    }

    private static void loseOfOneFlightAlone() {
        GasVoyages v = new GasVoyages();
        for (int f = 0; f < 8; f++) {
            v.fly(f, f, 0, 13, 10, 0);
            v.go(f, 0, 1, 3);
        }
        v.lose(0, 1, 1);
        v.lose(7, 3, 3);
        for (int f = 0; f < 8; f++) {
            check.due("entry 1 of " + f, v.entry(f, 1, 0), f == 0 ? -1 : f);
            check.due("entry 3 of " + f, v.entry(f, 3, 0), f == 7 ? -1 : f);
        }
        check.due("two", v.count(6), 2);
    }

    /** "Entries (but the first) may be LOST"; "BAD: also from below 1". */
    private static void firstEntryIsNeverLost() {
        GasVoyages v = held(3);
        check.due("from 0", v.lose(0, 0, 3), -2);
        check.due("the first alone", v.lose(0, 0, 0), -2);
        check.due("from -1", v.lose(0, -1, 3), -2);
        check.due("none was lost", v.count(6), 0);
        check.due("from 1", v.lose(0, 1, 3), 3);
        entryIs(v, 0, 5, 5, 1);
    }

    /** A LOG of one entry has one WAY; "it has a CLOSED CELL" or not. */
    private static void wayOfTheFirstEntry() {
        GasVoyages v = held(0);
        verdict("plain", v, 0, 1, 0);
        v.cell(5, 5, 1);
        verdict("water", v, 0, 1, 0);
        v.cell(5, 5, 2);
        verdict("closed", v, 2, 1, 1);
        v.cell(5, 5, 0);
        v.cell(5, 6, 2);
        verdict("closed beside it", v, 0, 1, 0);
    }

    /** "there are WAYS": where there are none, it is a DOUBT, CLOSED CELLS or not. */
    private static void noWays() {
        GasVoyages v = held(3);
        v.wind(true, 1, 2, 2, 1, 0);
        verdict("the last tick led elsewhere", v, 1, 0, 0);
        v.cell(5, 5, 2);
        verdict("closed", v, 1, 0, 0);
        v.lose(0, 3, 3);
        verdict("with the last entry lost", v, 2, 3, 3);
        v.cell(5, 5, 0);
        verdict("and plain", v, 0, 3, 0);
    }

    /** "A BREACH: there are WAYS, all BROKEN; CLEAR: there are, none BROKEN; else a DOUBT." */
    private static void clearDoubtBreach() {
        GasVoyages v = held(1);
        v.lose(0, 1, 1);
        v.wind(true, 1, 0, 0, 1, 0);
        v.wind(true, 2, 0, 0, 0, 1);
        verdict("none of three", v, 0, 3, 0);
        v.cell(6, 5, 2);
        verdict("one of three", v, 1, 3, 1);
        v.cell(5, 6, 2);
        verdict("two of three", v, 1, 3, 2);
        v.cell(5, 5, 2);
        verdict("three of three", v, 2, 3, 3);
        v.cell(6, 5, 0);
        v.cell(5, 6, 0);
        verdict("three of three by the first entry", v, 2, 3, 3);
    }

    private static void oneOfManyBroken() {
        GasVoyages v = held(6);
        v.lose(0, 1, 6);
        int ways = v.ways(0, false);
        v.wind(true, 7, 5, 5, 1, 0);
        verdict("plain", v, 0, ways, 0);
        v.cell(6, 5, 2);
        // Only by rising in each of the six TICKS is it at 7 behind the last.
        verdict("just one is broken", v, 1, ways, 1);
    }

    private static void oneOfManyNotBroken() {
        GasVoyages v = held(6);
        v.lose(0, 1, 6);
        int ways = v.ways(0, false);
        for (int l = 1; l <= 6; l++) {
            v.wind(true, l, 5, 5, 1, 0);
        }
        v.cell(6, 5, 2);
        // Behind the sixth TICK only LEVEL 7 and the ground stand on 5, 5: one row leads to 7, 21 to the ground.
        verdict("rows to 7 and to the ground", v, 1, ways, ways - 22);
        v.wind(true, 1, 4, 4, 1, 0);
        v.wind(true, 1, 0, 3, 0, 1);
        v.cell(5, 6, 2);
        v.wind(true, 2, 1, 4, 0, 1);
        v.wind(true, 3, 2, 4, 0, 1);
        v.wind(true, 4, 3, 4, 0, 1);
        v.wind(true, 5, 4, 4, 0, 1);
        // All but 1 2 3 4 5 6 7 stand on a CLOSED CELL behind some TICK.
        verdict("just one is not broken", v, 1, ways, ways - 1);
        v.wind(true, 7, 5, 5, 1, 0);
        verdict("not even one", v, 2, ways, ways);
    }

    /** "from one entry to the next the LEVEL changes by 1 at most". */
    private static void levelChangesByOneAtMost() {
        GasVoyages v = new GasVoyages();
        v.fly(5, 5, 0, 1, 100, 0);
        v.go(0, 0, 1, 6);
        int[] levels = {1, 2, 3, 4, 5, 6, 7};
        for (int i = 0; i < levels.length; i++) {
            check.due("level of entry " + i, v.entry(0, i, 2), levels[i]);
        }
        v.lose(0, 1, 5);
        verdict("one way up", v, 0, 1, 0);
        v.wind(true, 4, 2, 2, 1, 0);
        verdict("its only way leads elsewhere", v, 1, 0, 0);
        v.wind(true, 4, 2, 2, 0, 0);
        v.go(0, 0, 1, 1);
        v.lose(0, 6, 6);
        // 1 to 7 in seven TICKS: one of them keeps the LEVEL, the last one does not rise to 8.
        verdict("one tick more", v, 0, 7, 0);
    }

    /** "0 .. 7". */
    private static void notAboveSeven() {
        GasVoyages v = new GasVoyages();
        v.fly(5, 5, 0, 1, 100, 0);
        v.go(0, 0, 1, 9);
        int[][] lostAndWays = {{9, 2}, {8, 5}, {7, 13}};
        for (int[] l : lostAndWays) {
            v.lose(0, l[0], 9);
            verdict("from 7, lost from " + l[0], v, 0, l[1], 0);
        }
    }

    /** "(behind a 0 there is no further entry)": a 0 may be the last entry alone. */
    private static void behindAZeroNoFurtherEntry() {
        GasVoyages v = held(2);
        v.lose(0, 1, 1);
        verdict("not 1 0 1", v, 0, 2, 0);
        v.lose(0, 2, 2);
        verdict("1 1 0 but not 1 0 0", v, 0, 6, 0);
        v.go(0, 0, 1, 1);
        v.lose(0, 3, 3);
        // Behind 1 1: 1 2, behind 1 2: 1 2 3; from each of these five three more.
        verdict("none through 0", v, 0, 15, 0);
    }

    /** The LOG alone tells the LEVELS: a LOST one behind the last TICK may be 0 or not, whether it LANDED or not. */
    private static void lostLandingAndLostFlight() {
        GasVoyages landed = new GasVoyages();
        landed.fly(5, 5, 0, 200, 0, 0);
        landed.go(0, 0, 1, 1);
        verdict("landed", landed, 0, 1, 0);
        landed.lose(0, 1, 1);
        verdict("landed, lost", landed, 0, 3, 0);
        GasVoyages flies = held(1);
        verdict("flies", flies, 0, 1, 0);
        flies.lose(0, 1, 1);
        verdict("flies, lost", flies, 0, 3, 0);
    }

    /** "it goes by the REAL WIND of the new LEVEL as in a TICK": also where that leads beyond THE LAND. */
    private static void stayBeyondTheLand() {
        int[][] cornersAndWinds = {{0, 0, -1, 0}, {0, 0, 0, -1}, {11, 11, 1, 0}, {11, 11, 0, 2}, {11, 0, 2, 2}};
        for (int[] c : cornersAndWinds) {
            GasVoyages v = new GasVoyages();
            v.wind(true, 1, 0, 23, c[2], c[3]);
            v.wind(true, 2, 0, 23, c[2], c[3]);
            v.fly(c[0], c[1], 0, 13, 10, 0);
            v.go(0, 0, 1, 2);
            v.lose(0, 1, 1);
            verdict("stays", v, 0, 2, 0);
            v.cell(c[0], c[1], 2);
            verdict("stays on a closed one", v, 2, 2, 2);
        }
    }

    /** "(LEVEL 0: it stays)". */
    private static void groundStays() {
        GasVoyages v = new GasVoyages();
        for (int l = 1; l <= 7; l++) {
            v.wind(true, l, 0, 23, 1, 1);
        }
        v.fly(5, 5, 0, 200, 0, 0);
        v.go(0, 0, 1, 1);
        v.cell(6, 6, 2);
        verdict("landed", v, 0, 1, 0);
        v.lose(0, 1, 1);
        verdict("lost: 1 and 2 break, 0 does not", v, 1, 3, 2);
        v.cell(6, 6, 0);
        v.cell(5, 5, 2);
        verdict("where it stays", v, 2, 3, 3);
    }

    /** The first and the last CELL of the least and the greatest LAND, with the least LEVEL. */
    private static void groundInTheCorners() {
        for (int side = 4; side <= 24; side += 20) {
            int[][] corners = {{0, 0}, {side - 1, 0}, {0, side - 1}, {side - 1, side - 1}};
            for (int[] c : corners) {
                GasVoyages v = new GasVoyages();
                v.land(side, side);
                v.fly(c[0], c[1], 0, 200, 0, 0);
                v.go(0, 0, 1, 1);
                verdict("landed in a corner", v, 0, 1, 0);
                v.lose(0, 1, 1);
                verdict("landing lost", v, 0, 3, 0);
                v.cell(c[0], c[1], 2);
                verdict("closed", v, 2, 3, 3);
            }
        }
    }

    /** "A WAY is BROKEN if it has a CLOSED CELL (with whatever LEVEL)". */
    private static void closedWithWhateverLevel() {
        for (int top = 1; top <= 7; top++) {
            GasVoyages v = new GasVoyages();
            v.wind(true, top, 0, 23, 1, 0);
            for (int l = 1; l < top; l++) {
                v.level(l, 11, 500);
            }
            v.level(top, 10, 500);
            v.fly(5, 5, 0, 10, 10, 0);
            v.go(0, 0, 1, top);
            check.due("level", v.about(0, 2), top);
            verdict("plain, level " + top, v, 0, 1, 0);
            v.cell(v.about(0, 0), v.about(0, 1), 2);
            verdict("closed, level " + top, v, 2, 1, 1);
        }
    }

    /**
     * "1000000 at most": WAYS from 5, 5 back to it, at LEVEL 1 first and last. A WIND at some LEVEL and hour leads
     * to where none leads back from, and so leaves just as many WAYS as are told.
     */
    private static void aMillionAtMost() {
        int[][] just999999 = {{3, 3}, {5, 4}, {3, 5}, {5, 7}, {6, 10}};
        int[][] just1000000 = {{3, 5}, {3, 6}, {6, 6}, {6, 10}, {4, 13}};
        int[][] just1000001 = {{2, 1}, {2, 2}, {2, 4}, {2, 10}, {6, 10}};
        manyWays(17, just999999, 999999);
        manyWays(17, just1000000, 1000000);
        manyWays(18, just1000001, 1000000);
        manyWays(59, new int[0][], 1000000);
    }

    private static void manyWays(int ticks, int[][] levelsAndHours, int due) {
        GasVoyages v = held(ticks);
        v.lose(0, 1, ticks - 1);
        for (int[] l : levelsAndHours) {
            v.wind(true, l[0], l[1], l[1], 1, 0);
        }
        verdict(due + " through " + ticks, v, 0, due, 0);
        v.cell(5, 5, 2);
        verdict(due + " broken ones through " + ticks, v, 2, due, due);
    }

    /** "(CELLS and WINDS as they are now.)" */
    private static void cellsAndWindsAsTheyAreNow() {
        GasVoyages v = held(1);
        for (int round = 0; round < 2; round++) {
            v.cell(5, 5, 2);
            verdict("closed now", v, 2, 1, 1);
            v.cell(5, 5, 0);
            verdict("plain now", v, 0, 1, 0);
            v.wind(true, 1, 0, 0, 0, 1);
            verdict("other wind now", v, 1, 0, 0);
            v.wind(true, 1, 0, 0, 0, 0);
            verdict("no wind now", v, 0, 1, 0);
        }
        v.wind(false, 1, 0, 23, 1, 1);
        v.wind(true, 1, 1, 23, 1, 1);
        verdict("other hours and the forecast are nothing to it", v, 0, 1, 0);
        v.level(1, 0, 0);
        v.warmth(0, -20);
        verdict("nor are levels and warmth", v, 0, 1, 0);
    }
}
