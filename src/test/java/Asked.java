/** A GasVoyages whose calls are named, so that tables can tell them; no more of them than the document allows. */
final class Asked {
    private static final int MOST_CALLS = 512;

    private final GasVoyages v = new GasVoyages();
    private int calls = 0;

    /** The booleans of wind and ways are told as 1 and 0. */
    long ask(String call, int... a) {
        calls++;
        if (calls > MOST_CALLS) {
            throw new IllegalStateException("a test asks more than 512 calls of one object");
        }
        switch (call) {
            case "land": return v.land(a[0], a[1]);
            case "cell": return v.cell(a[0], a[1], a[2]);
            case "level": return v.level(a[0], a[1], a[2]);
            case "warmth": return v.warmth(a[0], a[1]);
            case "wind": return v.wind(a[0] == 1, a[1], a[2], a[3], a[4], a[5]);
            case "fly": return v.fly(a[0], a[1], a[2], a[3], a[4], a[5]);
            case "go": return v.go(a[0], a[1], a[2], a[3]);
            case "about": return v.about(a[0], a[1]);
            case "distance": return v.distance(a[0]);
            case "plan": return v.plan(a[0], a[1], a[2], a[3], a[4]);
            case "away": return v.away(a[0], a[1], a[2]);
            case "order": return v.order(a[0]);
            case "entry": return v.entry(a[0], a[1], a[2]);
            case "lose": return v.lose(a[0], a[1], a[2]);
            case "judge": return v.judge(a[0]);
            case "ways": return v.ways(a[0], a[1] == 1);
            case "chaser": return v.chaser(a[0], a[1], a[2]);
            case "chase": return v.chase(a[0], a[1], a[2]);
            case "first": return v.first(a[0]);
            case "record": return v.record(a[0]);
            case "count": return v.count(a[0]);
            case "digest": return v.digest();
            default: throw new IllegalArgumentException("no such call: " + call);
        }
    }
}
