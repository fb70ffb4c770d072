/** Real WINDS of LEVEL 1 that lead a FLIGHT in balance from one CELL to another. */
final class Drift {
    private Drift() {
    }

    /** Sets them from the given hour on, at most 12 hours, and tells how many TICKS it takes. */
    static int lead(GasVoyages v, int hour, int x, int y, int toX, int toY) {
        int atX = x;
        int atY = y;
        int ticks = 0;
        while (ticks < 12 && (atX != toX || atY != toY)) {
            int dx = Math.max(-2, Math.min(2, toX - atX));
            int dy = Math.max(-2, Math.min(2, toY - atY));
            v.wind(true, 1, hour + ticks, hour + ticks, dx, dy);
            atX += dx;
            atY += dy;
            ticks++;
        }
        return ticks;
    }
}
