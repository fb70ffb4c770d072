/** Promises 11 to 13: plan, away, order. */
public final class PlansTest {
    private static final Check check = new Check();

    public static void main(String[] args) {
        refusals();
        leastAndFirst();
        ordersBehindALanding();
        closedOnTheWay();
        closedWhereItIs();
        landingOnWater();
        noneKeepsTheLatest();
        planChangesNothing();
        byForecastAndHour();
        awayIsFromTheBeginning();
        doseAndEdges();
        fullnessInPlans();
        check.end("PlansTest");
    }

    private static GasVoyages balanced() {
        GasVoyages v = new GasVoyages();
        v.fly(5, 5, 0, 12, 10, 1);
        v.wind(false, 1, 0, 23, 1, 0);
        v.wind(false, 2, 0, 23, 0, 1);
        return v;
    }

    private static void orders(String what, GasVoyages v, int... due) {
        for (int i = 0; i < due.length; i++) {
            check.due(what + ": order " + i, v.order(i), due[i]);
        }
        check.due(what + ": no further order", v.order(due.length), -1);
    }

    private static void refusals() {
        GasVoyages v = balanced();
        int[][] bad = {{-1, 1, 1, 0, 0}, {1, 1, 1, 0, 0}, {0, 0, 1, 0, 0}, {0, 7, 1, 0, 0}, {0, 1, 0, 0, 0},
            {0, 1, 51, 0, 0}, {0, 1, 1, -1, 0}, {0, 1, 1, 12, 0}, {0, 1, 1, 0, -1}, {0, 1, 1, 0, 12},
            {Integer.MAX_VALUE, 1, 1, 0, 0}, {0, Integer.MAX_VALUE, 1, 0, 0}};
        for (int[] b : bad) {
            check.due("bad plan", v.plan(b[0], b[1], b[2], b[3], b[4]), -2);
        }
        int[][] badAway = {{-1, 1, 1}, {1, 1, 1}, {0, 0, 1}, {0, 7, 1}, {0, 1, 0}, {0, 1, 51}};
        for (int[] b : badAway) {
            check.due("bad away", v.away(b[0], b[1], b[2]), -2);
        }
        check.due("none was found", v.order(0), -1);
        check.due("order(-1)", v.order(-1), -1);
        check.due("order(least)", v.order(Integer.MIN_VALUE), -1);
        v.go(0, 2, 50, 1);
        check.due("landed: plan", v.plan(0, 1, 1, 0, 0), -3);
        check.due("landed: away", v.away(0, 1, 1), -3);
        check.due("bad comes before no", v.plan(0, 7, 1, 0, 0), -2);
        check.due("bad comes before no", v.away(0, 1, 51), -2);
    }

    private static void leastAndFirst() {
        GasVoyages v = balanced();
        check.due("by the balance", v.plan(0, 3, 1, 8, 5), 0);
        orders("balance", v, 0, 0, 0);
        check.due("rises by ballast", v.plan(0, 1, 1, 5, 6), 0);
        orders("ballast", v, 1);
        check.due("lands by gas", v.plan(0, 1, 1, 5, 5), 0);
        orders("gas", v, 2);
        check.due("of like rows the first", v.plan(0, 2, 1, 6, 6), 0);
        orders("first of like", v, 0, 1);
        check.due("order(-1)", v.order(-1), -1);
        check.due("order(most)", v.order(Integer.MAX_VALUE), -1);
        v.land(8, 8);
        orders("a plan outlasts its land", v, 0, 1);
    }

    private static void ordersBehindALanding() {
        GasVoyages v = balanced();
        check.due("lands at once and stays", v.plan(0, 6, 1, 5, 5), 0);
        orders("landed", v, 2, 0, 0, 0, 0, 0);
        check.due("lands behind a tick", v.plan(0, 4, 1, 6, 5), 0);
        orders("landed later", v, 0, 2, 0, 0);
    }

    private static void closedOnTheWay() {
        GasVoyages v = balanced();
        v.cell(6, 5, 2);
        check.due("around the closed cell", v.plan(0, 2, 1, 7, 5), 2);
        orders("around", v, 1, 2);
        v.cell(6, 5, 1);
        check.due("over water", v.plan(0, 2, 1, 7, 5), 0);
        orders("over water", v, 0, 0);
        v.cell(7, 5, 2);
        check.due("not at the end either", v.plan(0, 2, 1, 7, 5), 2);
        orders("end", v, 0, 1);
    }

    private static void closedWhereItIs() {
        GasVoyages v = balanced();
        v.cell(5, 5, 2);
        check.due("it may leave", v.plan(0, 1, 1, 5, 5), 1);
        orders("leaves", v, 0);
        v.wind(false, 1, 0, 23, 0, 0);
        v.wind(false, 2, 0, 23, 0, 0);
        check.due("landing on it and staying are ruled out", v.plan(0, 1, 1, 5, 5), -1);
        check.due("away likewise", v.away(0, 1, 1), -1);
    }

    private static void landingOnWater() {
        GasVoyages v = balanced();
        v.cell(5, 5, 1);
        check.due("not landing on water", v.plan(0, 1, 1, 5, 5), 1);
        orders("flies on", v, 0);
        v.fly(2, 2, 0, 200, 1, 0);
        v.cell(2, 2, 1);
        check.due("can only land on water", v.plan(1, 3, 1, 2, 2), -1);
        v.cell(2, 2, 0);
        check.due("can only land", v.plan(1, 3, 1, 2, 2), 0);
        orders("lands whatever is done", v, 0, 0, 0);
    }

    private static void noneKeepsTheLatest() {
        GasVoyages v = balanced();
        v.plan(0, 2, 1, 6, 6);
        v.fly(2, 2, 0, 200, 1, 0);
        v.cell(2, 2, 2);
        check.due("none", v.plan(1, 6, 1, 0, 0), -1);
        check.due("none", v.away(1, 6, 1), -1);
        check.due("bad", v.plan(1, 0, 1, 0, 0), -2);
        orders("the latest that was found", v, 0, 1);
    }

    private static void planChangesNothing() {
        GasVoyages v = balanced();
        v.go(0, 0, 1, 2);
        long before = v.digest();
        v.plan(0, 6, 3, 0, 0);
        v.away(0, 6, 3);
        check.due("digest behind plans", v.digest(), before);
    }

    private static void byForecastAndHour() {
        GasVoyages v = new GasVoyages();
        v.wind(true, 1, 0, 23, -1, -1);
        v.wind(false, 1, 23, 23, 1, 0);
        v.wind(false, 1, 0, 0, 0, 2);
        v.fly(5, 5, 22, 13, 10, 0);
        v.go(0, 0, 1, 1);
        check.due("begins where it is, at its hour", v.plan(0, 2, 1, 5, 6), 0);
        orders("by forecast", v, 0, 0);
        v.warmth(23, -13);
        check.due("warmth of the hour brings it down", v.plan(0, 2, 1, 5, 6), 5);
    }

    private static void awayIsFromTheBeginning() {
        GasVoyages v = balanced();
        v.wind(true, 1, 0, 23, -2, 0);
        v.go(0, 0, 1, 2);
        check.due("x now", v.about(0, 0), 1);
        // Drifting back by 1, rising beside (0, 1) or landing where it is: 9, 17, 16 from 5, 5.
        check.due("greatest from where it began", v.away(0, 1, 1), 17);
        orders("away", v, 1);
        check.due("two ticks", v.away(0, 2, 1), 20);
        orders("away", v, 1, 0);
    }

    private static void doseAndEdges() {
        GasVoyages v = new GasVoyages();
        v.wind(false, 2, 0, 23, 2, 2);
        v.fly(10, 10, 0, 10, 10, 20);
        check.due("a small dose can't lift it", v.plan(0, 1, 16, 11, 11), 2);
        check.due("beyond the land it stays", v.plan(0, 1, 18, 11, 11), 2);
        v.wind(false, 2, 0, 23, 1, 1);
        check.due("balance by 17", v.plan(0, 1, 17, 11, 11), 2);
        check.due("rises by 18", v.plan(0, 1, 18, 11, 11), 0);
        orders("rises", v, 1);
        check.due("more than there is", v.plan(0, 1, 50, 11, 11), 0);
    }

    private static void fullnessInPlans() {
        GasVoyages v = new GasVoyages();
        v.level(2, 12, 5);
        v.fly(5, 5, 0, 10, 10, 0);
        v.wind(false, 1, 0, 23, 1, 0);
        v.wind(false, 2, 0, 23, 0, 1);
        // It rises to 2, loses half of its GAS there, falls to 1 and lands, whatever is spent.
        check.due("gas goes in plans, too", v.plan(0, 3, 1, 6, 6), 0);
        orders("falls", v, 0, 0, 0);
        check.due("gas is there still", v.about(0, 3), 10);
    }
}
