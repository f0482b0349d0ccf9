/** Promises 15 to 21: soonest, route, drift, tune, saw, forget, fits. */
public final class WaysTest {
    private static final Due DUE = new Due("WaysTest");
    private static final int BAD = -1, FULL = -3, NONE = -9;

    private static void soonestIs(SwingCity x, int a, int t, int b, int minute, int rides) {
        String call = "soonest(" + a + ", " + t + ", " + b + ", ";
        DUE.is(call + "0)", x.soonest(a, t, b, 0), minute);
        DUE.is(call + "1)", x.soonest(a, t, b, 1), rides);
    }

    // Rope 0 comes to 1 in 3, 9, 15 (door 1: 15, 45 ..); rope 1 leaves 1 in 1, 5 .. 17; rope 2 leaves 0 in 5, 23.
    private static void soonest() {
        SwingCity x = Due.city("sills 4;door 1 5 1;rope 0 1 3 0;rope 1 2 2 1;rope 0 2 9 5;");
        soonestIs(x, 0, 0, 1, 15, 1);
        soonestIs(x, 0, 12, 1, 15, 1);
        soonestIs(x, 0, 13, 1, 45, 1);
        soonestIs(x, 0, 0, 2, 14, 1);
        soonestIs(x, 0, 6, 2, 19, 2);
        soonestIs(x, 0, 0, 3, NONE, NONE);
        soonestIs(x, 3, 5, 3, 5, 0);
        soonestIs(x, 0, 999, 0, 999, 0);
        x.stop(2);
        soonestIs(x, 0, 0, 2, 19, 2);
        x.push(2, 2);
        soonestIs(x, 0, 0, 2, 11, 1);
        DUE.is("nothing is changed", x.count(4), 2);
        int[][] bad = {{-1, 0, 0, 0}, {4, 0, 0, 0}, {0, -1, 0, 0}, {0, 1000, 0, 0}, {0, 0, -1, 0}, {0, 0, 4, 0},
            {0, 0, 0, -1}, {0, 0, 0, 2}};
        for (int[] b : bad) {
            DUE.is("bad soonest", x.soonest(b[0], b[1], b[2], b[3]), BAD);
        }
    }

    private static void fewestRides() {
        String[] cities = {
            "sills 3;rope 0 1 1 0;rope 1 2 1 1;rope 0 2 2 0;", "sills 3;rope 0 2 2 0;rope 1 2 1 1;rope 0 1 1 0;"};
        for (String city : cities) {
            soonestIs(Due.city(city), 0, 0, 2, 2, 1);
        }
        SwingCity far = Due.city("sills 8;rope 6 7 1 0;rope 5 6 1 0;rope 4 5 1 0;rope 3 4 1 0;"
            + "rope 2 3 1 0;rope 1 2 1 0;rope 0 1 1 0;");
        soonestIs(far, 0, 0, 7, 13, 7);
        soonestIs(far, 7, 1, 0, 14, 7);
        soonestIs(Due.city("sills 3;rope 1 2 1 0;"), 1, 0, 0, NONE, NONE);
        SwingCity late = Due.city("sills 2;rope 0 1 1 0;");
        soonestIs(late, 0, 998, 1, 999, 1);
        soonestIs(late, 0, 999, 1, NONE, NONE);
    }

    private static void routes() {
        SwingCity x = Due.city("sills 3;rope 0 1 1 0;rope 1 2 4 2;");
        DUE.is("of none", x.route(1, 0, 0, 0, 0), 0);
        DUE.is("of none, 999", x.route(5, 2, 999, 0, 0), 999);
        DUE.is("of none, the sill", x.route(5, 2, 999, 0, 1), 2);
        DUE.is("six", x.route(1, 0, 0, 111111, 0), 6);
        DUE.is("six, the sill", x.route(1, 0, 0, 111111, 1), 0);
        DUE.is("the highest figure first", x.route(1, 0, 0, 12, 0), 6);
        DUE.is("the highest figure first, the sill", x.route(1, 0, 0, 12, 1), 2);
        DUE.is("not here", x.route(1, 0, 0, 21, 0), -10);
        DUE.is("not here, later", x.route(1, 0, 0, 112, 1), -12);
        DUE.is("no such rope", x.route(1, 0, 0, 13, 0), -11);
        DUE.is("no such rope 7", x.route(1, 0, 0, 8, 0), -10);
        DUE.is("by 999", x.route(1, 0, 994, 11111, 0), 999);
        DUE.is("beyond 999", x.route(1, 0, 994, 111111, 0), -15);
        x.stop(0);
        DUE.is("stopped", x.route(1, 0, 0, 1, 0), -10);
        DUE.is("another is not", x.route(1, 1, 0, 2, 0), 6);
        int[] bad = {-1, -11, 9, 10, 101, 19, 91, 1111111, 1111110, Integer.MAX_VALUE, Integer.MIN_VALUE};
        for (int ropes : bad) {
            DUE.is("route of " + ropes, x.route(1, 0, 0, ropes, 0), BAD);
        }
        int[][] wrong = {{0, 0, 0, 0}, {6, 0, 0, 0}, {1, -1, 0, 0}, {1, 3, 0, 0}, {1, 0, -1, 0}, {1, 0, 1000, 0},
            {1, 0, 0, -1}, {1, 0, 0, 2}};
        for (int[] w : wrong) {
            DUE.is("bad route", x.route(w[0], w[1], w[2], 1, w[3]), BAD);
            DUE.is("bad drift", x.drift(w[0], w[1], w[2], 1, 0, w[3]), BAD);
        }
    }

    // The rope comes to 1 in 5, 11, 17 ..; door 1: 0 .. 1, 9 .. 10, 18 .. 19; to 0 in 2, 8, 14; door 0: 0, 7, 14.
    private static void routesByGrip() {
        SwingCity x = Due.city("sills 2;door 0 7 1;door 1 9 2;rope 0 1 3 2;");
        for (int grip = 1; grip <= 3; grip++) {
            DUE.is("falls", x.route(grip, 0, 0, 1, 0), -10);
        }
        for (int grip = 4; grip <= 5; grip++) {
            DUE.is("swings back", x.route(grip, 0, 0, 1, 0), 14);
            DUE.is("swings back to", x.route(grip, 0, 0, 1, 1), 0);
        }
        DUE.is("the later rope is there", x.route(2, 0, 9, 1, 0), -10);
        DUE.is("from the other sill, in 11", x.route(1, 1, 6, 1, 0), 14);
        DUE.is("from the other sill, in 5", x.route(3, 1, 5, 1, 0), 14);
        DUE.is("from the other sill, too weak", x.route(2, 1, 5, 1, 0), -10);
    }

    private static void driftIs(SwingCity x, int ropes, int d, int least, int greatest) {
        DUE.is("drift of " + ropes + " by " + d + ", least", x.drift(1, 0, 0, ropes, d, 0), least);
        DUE.is("drift of " + ropes + " by " + d + ", greatest", x.drift(1, 0, 0, ropes, d, 1), greatest);
    }

    private static void drifts() {
        SwingCity x = Due.city("sills 2;rope 0 1 2 0;rope 0 1 9 0;rope 0 1 2 0;rope 0 1 2 0;");
        driftIs(x, 0, 2, 0, 0);
        DUE.is("of none, in its minute", x.drift(1, 0, 999, 0, 2, 1), 999);
        driftIs(x, 1, 0, 2, 2);
        driftIs(x, 1, 1, 2, 3);
        driftIs(x, 1, 2, 2, 4);
        driftIs(x, 11, 2, 4, 8);
        driftIs(x, 1111, 2, 8, 16);
        driftIs(x, 2, 2, 9, 11);
        // By 1 and then 3 (2 .. 4 each): 2 + 2, but a 3 that has left 1 by then comes back a turn later.
        driftIs(x, 13, 0, 4, 4);
        driftIs(x, 13, 2, 4, 12);
        driftIs(x, 5, 2, NONE, NONE);
        DUE.is("as it was", x.rope(0, 2), 2);
        x.stop(0);
        driftIs(x, 1, 2, NONE, NONE);
        DUE.is("drift -1", x.drift(1, 0, 0, 1, -1, 0), BAD);
        DUE.is("drift 3", x.drift(1, 0, 0, 1, 3, 0), BAD);
        int[] bad = {-1, 9, 10, 11111, 1011, Integer.MAX_VALUE};
        for (int ropes : bad) {
            DUE.is("drift of " + ropes, x.drift(1, 0, 0, ropes, 0, 0), BAD);
        }
        // Only a beat of 2 passes door 1, only one of 3 would then pass door 0.
        SwingCity y = Due.city("sills 2;door 0 6 1;door 1 9 3;rope 0 1 2 0;");
        driftIs(y, 1, 2, 2, 2);
        driftIs(y, 11, 2, NONE, NONE);
        SwingCity z = Due.city("sills 5;rope 0 1 1 0;rope 1 2 1 1;rope 2 3 1 2;rope 3 4 1 3;");
        driftIs(z, 1234, 0, 4, 4);
        // At the latest 3 on sill 1, 10 on 2, 17 on 3.
        driftIs(z, 12, 2, 2, 10);
        driftIs(z, 123, 2, 3, 17);
        driftIs(z, 1234, 2, 4, 24);
    }

    // Door 1: 9, 18, 27; the rope comes there in 4 and its beat, and each two beats more.
    private static void tuning() {
        SwingCity x = Due.city("sills 3;door 1 9 1;rope 0 1 5 4;");
        DUE.is("as it is", x.soonest(0, 0, 1, 0), 9);
        DUE.is("the least of two", x.tune(0, 0, 0, 1, 0), 1);
        DUE.is("its minute", x.tune(0, 0, 0, 1, 1), 9);
        DUE.is("beat 2", x.tune(0, 0, 9, 1, 0), 2);
        DUE.is("beat 2: 18", x.tune(0, 0, 9, 1, 1), 18);
        DUE.is("no way", x.tune(0, 0, 0, 2, 0), NONE);
        DUE.is("no way, no minute", x.tune(0, 0, 0, 2, 1), NONE);
        DUE.is("there already", x.tune(0, 2, 999, 2, 0), 1);
        DUE.is("there already, in", x.tune(0, 2, 999, 2, 1), 999);
        DUE.is("too late", x.tune(0, 0, 999, 1, 0), NONE);
        x.stop(0);
        DUE.is("stopped: no way", x.soonest(0, 0, 1, 0), NONE);
        DUE.is("stopped, it goes then", x.tune(0, 0, 9, 1, 0), 2);
        DUE.is("still stopped", x.rope(0, 4), 1);
        DUE.is("still its beat", x.rope(0, 2), 5);
        int[][] bad = {{-1, 0, 0, 1, 0}, {1, 0, 0, 1, 0}, {0, -1, 0, 1, 0}, {0, 3, 0, 1, 0}, {0, 0, -1, 1, 0},
            {0, 0, 1000, 1, 0}, {0, 0, 0, -1, 0}, {0, 0, 0, 3, 0}, {0, 0, 0, 1, -1}, {0, 0, 0, 1, 2}};
        for (int[] b : bad) {
            DUE.is("bad tune", x.tune(b[0], b[1], b[2], b[3], b[4]), BAD);
        }
        SwingCity y = Due.city("sills 3;rope 0 1 5 0;rope 1 2 5 0;");
        y.stop(1);
        DUE.is("another one is stopped", y.tune(0, 0, 0, 2, 0), NONE);
    }

    private static void seeing() {
        SwingCity x = new SwingCity();
        DUE.is("saw(-1, 0)", x.saw(-1, 0), BAD);
        DUE.is("saw(4, 0)", x.saw(4, 0), BAD);
        DUE.is("saw(0, -1)", x.saw(0, -1), BAD);
        DUE.is("saw(0, 1000)", x.saw(0, 1000), BAD);
        for (int i = 1; i <= 6; i++) {
            DUE.is("saw", x.saw(3, 999), i);
            DUE.is("count(3)", x.count(3), i);
        }
        DUE.is("a seventh", x.saw(3, 999), FULL);
        DUE.is("a bad seventh", x.saw(4, 999), BAD);
        DUE.is("seen on 3 only", x.fits(1, 3, 0), 1);
        DUE.is("not on 2", x.fits(1, 2, 0), 0);
        DUE.is("forget()", x.forget(), 6);
        DUE.is("forgotten", x.fits(1, 2, 0), 1);
        DUE.is("forget() again", x.forget(), 0);
        DUE.is("saw again", x.saw(0, 0), 1);
    }

    private static void fitsAre(String seen, SwingCity x, int... rows) {
        for (int n = 0; n < rows.length; n++) {
            DUE.is(seen + ": fits(1, 0, " + n + ")", x.fits(1, 0, n), rows[n]);
        }
    }

    // Both ropes leave 0 in 1, 5, 9, come to 1 in 3, 7, 11, and so back.
    private static void fitting() {
        String city = "sills 3;rope 0 1 2 1;rope 0 1 2 1;";
        int[][] seen = {{0, 0}, {0, 1}, {0, 2}, {1, 2}, {1, 3}, {1, 4}, {0, 5}, {1, 7}, {0, 9}, {0, 999}, {1, 999},
            {2, 0}};
        int[][] rows = {{1, 2, 4, 8, 16}, {1, 2, 4, 8, 16}, {1, 0, 0, 0, 0}, {0, 0, 0, 0, 0}, {0, 2, 4, 8, 16},
            {0, 2, 0, 0, 0}, {1, 0, 4, 8, 16}, {0, 2, 0, 8, 16}, {1, 0, 4, 0, 16}, {1, 0, 4, 0, 16}, {0, 2, 0, 8, 0},
            {0, 0, 0, 0, 0}};
        for (int i = 0; i < seen.length; i++) {
            SwingCity x = Due.city(city);
            x.saw(seen[i][0], seen[i][1]);
            fitsAre("seen on " + seen[i][0] + " in " + seen[i][1], x, rows[i]);
        }
        SwingCity x = Due.city(city);
        fitsAre("nothing seen", x, 1, 2, 4, 8, 16);
        x.saw(1, 3);
        x.saw(0, 5);
        fitsAre("seen twice", x, 0, 0, 4, 8, 16);
        x.stop(0);
        fitsAre("one is stopped", x, 0, 0, 1, 1, 1);
        int[][] bad = {{0, 0, 0}, {6, 0, 0}, {1, -1, 0}, {1, 3, 0}, {1, 0, -1}, {1, 0, 5}};
        for (int[] b : bad) {
            DUE.is("bad fits", x.fits(b[0], b[1], b[2]), BAD);
        }
        SwingCity full = Due.city("sills 2;" + "rope 0 1 1 0;".repeat(8));
        DUE.is("8 ropes, 4 of them", full.fits(1, 0, 4), 4096);
        SwingCity closed = Due.city("sills 2;door 1 9 1;rope 0 1 1 0;");
        DUE.is("a fall fits nothing", closed.fits(1, 0, 1), 0);
        DUE.is("swings back", closed.fits(2, 0, 1), 1);
    }

    public static void main(String[] args) {
        soonest();
        fewestRides();
        routes();
        routesByGrip();
        drifts();
        tuning();
        seeing();
        fitting();
        DUE.end();
    }
}
