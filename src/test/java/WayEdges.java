/** The edges of ways: section 3 of the Terms, promises 15 to 21. */
final class WayEdges {
    private static final int BAD = Sentences.BAD, FULL = Sentences.FULL, NONE = Sentences.NONE;
    private static final int LEAST = Sentences.LEAST, MOST = Sentences.MOST;

    private final Sentences due;

    WayEdges(Sentences due) {
        this.due = due;
    }

    private void soonestIs(SwingCity x, int a, int t, int b, int minute, int rides) {
        String call = "soonest(" + a + ", " + t + ", " + b + ", ";
        due.is(call + "0)", x.soonest(a, t, b, 0), minute);
        due.is(call + "1)", x.soonest(a, t, b, 1), rides);
    }

    private void routeIs(SwingCity x, int grip, int a, int t, int ropes, int minute, int sill) {
        String call = "route(" + grip + ", " + a + ", " + t + ", " + ropes + ", ";
        due.is(call + "0)", x.route(grip, a, t, ropes, 0), minute);
        due.is(call + "1)", x.route(grip, a, t, ropes, 1), sill);
    }

    private void driftIs(SwingCity x, int t, int ropes, int d, int least, int greatest) {
        String call = "drift(1, 0, " + t + ", " + ropes + ", " + d + ", ";
        due.is(call + "0)", x.drift(1, 0, t, ropes, d, 0), least);
        due.is(call + "1)", x.drift(1, 0, t, ropes, d, 1), greatest);
    }

    private void tuneIs(SwingCity x, int k, int t, int b, int beat, int minute) {
        String call = "tune(" + k + ", 0, " + t + ", " + b + ", ";
        due.is(call + "0)", x.tune(k, 0, t, b, 0), beat);
        due.is(call + "1)", x.tune(k, 0, t, b, 1), minute);
    }

    // ---- Terms, section 3: SOONEST

    private void nothingIsChanged() {
        due.by("Terms", "(Nothing is changed; ROPES as they are NOW.)");
        SwingCity x = Twins.busy();
        x.soonest(0, 0, 1, 0);
        x.soonest(0, 0, 1, 1);
        x.route(5, 0, 0, 111111, 0);
        x.route(1, 0, 0, 2, 1);
        x.drift(5, 0, 0, 1111, 2, 0);
        x.tune(0, 0, 0, 1, 0);
        x.fits(5, 0, 4);
        x.meets();
        due.same("behind seven questions", Twins.all(x), Twins.all(Twins.busy()));
        SwingCity y = Due.city("sills 2;rope 0 1 2 1;");
        soonestIs(y, 0, 0, 1, 3, 1);
        y.push(0, 2);
        soonestIs(y, 0, 0, 1, 4, 1);
        routeIs(y, 1, 0, 0, 1, 4, 1);
        y.stop(0);
        soonestIs(y, 0, 0, 1, NONE, NONE);
        due.is("fits", y.fits(1, 0, 1), 0);
        y.undo();
        soonestIs(y, 0, 0, 1, 4, 1);
        due.is("fits again", y.fits(1, 0, 1), 1);
    }

    private void byMinute999() {
        due.by("Terms", "the first minute (by 999) in which one can be there");
        SwingCity x = Due.city("sills 3;door 2 9 1;rope 0 1 1 0;rope 0 2 9 0;");
        soonestIs(x, 0, 997, 1, 999, 1);
        soonestIs(x, 0, 998, 1, 999, 1);
        soonestIs(x, 0, 999, 1, NONE, NONE);
        soonestIs(x, 1, 998, 0, NONE, NONE);
        soonestIs(x, 1, 997, 0, 998, 1);
        soonestIs(x, 0, 990, 2, 999, 1);
        soonestIs(x, 0, 991, 2, NONE, NONE);
        soonestIs(x, 0, 999, 0, 999, 0);
        soonestIs(x, 1, 988, 2, 999, 2);
        soonestIs(x, 1, 990, 2, NONE, NONE);
    }

    // Sill 1 is open in 0, 9, 18; the rope, of BEAT 1, would swing there nine times, beyond any GRIP.
    private void waitingAsOneLikes() {
        due.by("Terms", "waiting as one likes ahead of each RIDE");
        SwingCity x = Due.city("sills 3;door 0 9 1;door 1 9 1;rope 0 1 1 0;rope 1 2 1 1;");
        soonestIs(x, 0, 0, 1, 9, 1);
        soonestIs(x, 0, 8, 1, 9, 1);
        soonestIs(x, 0, 9, 1, 27, 1);
        soonestIs(x, 0, 0, 2, 10, 2);
        routeIs(x, 5, 0, 0, 1, -10, -10);
    }

    private void fewestRidesOrNone() {
        due.by("Terms", "and the fewest RIDES for that; NONE.");
        soonestIs(Due.city("sills 3;rope 0 1 1 0;rope 1 2 1 1;rope 0 2 2 0;"), 0, 0, 2, 2, 1);
        soonestIs(Due.city("sills 3;rope 0 2 2 0;rope 1 2 1 1;rope 0 1 1 0;"), 0, 0, 2, 2, 1);
        soonestIs(Due.city("sills 3;rope 0 2 3 0;rope 1 2 1 1;rope 0 1 1 0;"), 0, 0, 2, 2, 2);
        SwingCity far = Due.city("sills 8;rope 6 7 1 0;rope 5 6 1 1;rope 4 5 1 0;rope 3 4 1 1;"
            + "rope 2 3 1 0;rope 1 2 1 1;rope 0 1 1 0;rope 7 0 8 8;");
        soonestIs(far, 0, 0, 7, 7, 7);
        soonestIs(far, 0, 0, 0, 0, 0);
        far.stop(3);
        soonestIs(far, 0, 0, 7, 8, 1);
        far.stop(7);
        soonestIs(far, 0, 0, 7, NONE, NONE);
        soonestIs(new SwingCity(), 3, 5, 3, 5, 0);
        soonestIs(new SwingCity(), 3, 5, 2, NONE, NONE);
    }

    // ---- Terms, section 3: ROUTE

    private void fromTheEndOfTheOneAhead() {
        due.by("Terms", "ROUTE with a GRIP: RIDES by told ROPES one behind another, each from the end of the one ahead on");
        SwingCity x = Due.city("sills 2;rope 0 1 2 0;rope 0 1 3 1;");
        routeIs(x, 1, 0, 0, 1, 2, 1);
        routeIs(x, 1, 0, 1, 1, 6, 1);
        routeIs(x, 1, 0, 0, 11, 4, 0);
        routeIs(x, 1, 0, 0, 12, 7, 0);
        routeIs(x, 1, 0, 0, 21, 8, 0);
    }

    private void figuresAreOneToEight() {
        due.by("Terms", "(figures 1 .. 8: ROPE and 1; the first one the highest)");
        SwingCity x = Due.city("sills 5;rope 0 1 1 0;" + "rope 1 2 1 0;".repeat(6) + "rope 2 3 1 0;");
        routeIs(x, 1, 0, 0, 1, 1, 1);
        routeIs(x, 1, 2, 0, 8, 1, 3);
        routeIs(x, 1, 0, 0, 128, 5, 3);
        routeIs(x, 1, 3, 0, 821, 6, 0);
        routeIs(x, 1, 0, 0, 821, -10, -10);
        routeIs(x, 1, 0, 0, 9, BAD, BAD);
        routeIs(x, 1, 0, 0, 10, BAD, BAD);
    }

    private void theFirstThatCanNotBe() {
        due.by("Terms", "or the first RIDE (from 0) that can not be");
        SwingCity x = Due.city("sills 2;rope 0 1 1 0;");
        int[] ropes = {211111, 121111, 112111, 111211, 111121, 111112};
        for (int i = 0; i < ropes.length; i++) {
            routeIs(x, 1, 0, 0, ropes[i], -10 - i, -10 - i);
        }
        routeIs(x, 1, 0, 0, 12221, -11, -11);
    }

    private void noSuchRope() {
        due.by("Terms", "(no such ROPE");
        routeIs(new SwingCity(), 1, 0, 0, 1, -10, -10);
        SwingCity x = Due.city("rope 0 1 1 0;rope 0 1 1 0;");
        routeIs(x, 1, 0, 0, 2, 1, 1);
        routeIs(x, 1, 0, 0, 3, -10, -10);
        routeIs(x, 1, 0, 0, 8, -10, -10);
        routeIs(x, 1, 0, 0, 18, -11, -11);
    }

    private void aStoppedRope() {
        due.by("Terms", "no such ROPE, STOPPED");
        SwingCity x = Due.city("rope 0 1 1 0;rope 0 1 1 0;");
        x.stop(1);
        routeIs(x, 1, 0, 0, 1, 1, 1);
        routeIs(x, 1, 0, 0, 2, -10, -10);
        routeIs(x, 1, 0, 0, 112, -12, -12);
        x.push(1, 0);
        routeIs(x, 1, 0, 0, 112, 3, 1);
    }

    private void aRopeThatIsNotHere() {
        due.by("Terms", "STOPPED, not here");
        SwingCity x = Due.city("sills 3;rope 0 1 1 0;rope 1 2 1 0;");
        routeIs(x, 1, 0, 0, 2, -10, -10);
        routeIs(x, 1, 0, 0, 112, -12, -12);
        routeIs(x, 1, 2, 0, 1, -10, -10);
        routeIs(x, 1, 0, 0, 12, 3, 2);
    }

    // Sill 1 is open in 0, 9, 18, sill 0 in 0, 7, 14; the rope is at 0 in 3, 7, 11, at 1 in 5, 9.
    private void aFall() {
        due.by("Terms", "not here, a FALL");
        SwingCity x = Due.city("sills 2;door 0 7 1;door 1 9 1;rope 0 1 2 3;");
        routeIs(x, 1, 0, 0, 1, -10, -10);
        routeIs(x, 2, 0, 0, 1, 7, 0);
        routeIs(x, 2, 0, 0, 11, 9, 1);
        routeIs(x, 2, 0, 0, 111, -12, -12);
        routeIs(x, 3, 0, 0, 111, -12, -12);
    }

    private void beyond999() {
        due.by("Terms", "a FALL, beyond 999)");
        SwingCity x = Due.city("sills 2;rope 0 1 1 0;rope 0 1 9 0;");
        routeIs(x, 1, 0, 998, 1, 999, 1);
        routeIs(x, 1, 0, 999, 1, -10, -10);
        routeIs(x, 1, 0, 994, 11111, 999, 1);
        routeIs(x, 1, 0, 994, 111111, -15, -15);
        routeIs(x, 1, 0, 990, 2, 999, 1);
        routeIs(x, 1, 0, 991, 2, -10, -10);
        SwingCity closed = Due.city("sills 2;door 1 9 9;door 0 7 1;rope 1 0 1 0;");
        // At 0 in odd minutes, of which 987 and 1001 are open: 999 is not, and in 1000 sill 1 is.
        routeIs(closed, 2, 1, 998, 1, -10, -10);
        routeIs(closed, 2, 1, 996, 1, 998, 1);
    }

    // ---- Terms, section 3: DRIFT

    private void driftIsNoughtToTwo() {
        due.by("Terms", "DRIFT d (0 .. 2)");
        SwingCity x = Due.city("sills 2;rope 0 1 9 0;");
        driftIs(x, 0, 1, -1, BAD, BAD);
        driftIs(x, 0, 1, 0, 9, 9);
        driftIs(x, 0, 1, 1, 9, 10);
        driftIs(x, 0, 1, 2, 9, 11);
        driftIs(x, 0, 1, 3, BAD, BAD);
        driftIs(x, 0, 1, LEAST, BAD, BAD);
        driftIs(x, 0, 1, MOST, BAD, BAD);
    }

    // Four ropes, of BEAT 1: at the latest one ends in 3 (of 0), 10 (of 1, taken in 7), 17, 24.
    private void upToDMore() {
        due.by("Terms", "each ROPE's BEAT may be up to d more");
        SwingCity x = Due.city("sills 5;rope 0 1 1 0;rope 1 2 1 1;rope 2 3 1 2;rope 3 4 1 3;");
        driftIs(x, 0, 1, 2, 1, 3);
        driftIs(x, 0, 12, 2, 2, 10);
        driftIs(x, 0, 123, 2, 3, 17);
        driftIs(x, 0, 1234, 2, 4, 24);
        driftIs(x, 0, 1234, 0, 4, 4);
        due.is("BEAT is as it was", x.rope(0, 2), 1);
        // The same four behind another rope, that is not told.
        SwingCity y = Due.city("sills 5;rope 0 4 9 0;rope 0 1 1 0;rope 1 2 1 1;rope 2 3 1 2;rope 3 4 1 3;");
        driftIs(y, 0, 2345, 2, 4, 24);
        driftIs(y, 0, 1, 2, 9, 11);
        driftIs(y, 0, 2345, 2, 4, 24);
        // Each by itself: the first by 2 more, ending in 4; the second by 1 more, at sill 1 in 3 and then in 9.
        driftIs(Due.city("sills 2;rope 0 1 2 0;rope 0 1 2 0;"), 0, 12, 2, 4, 12);
    }

    // BEAT 2: 2, 4; BEAT 3: 3, 6. Were the second ride to drift alone, it would end in 8 at the latest.
    private void theSameForAllRides() {
        due.by("Terms", "(the same for all RIDES on it)");
        SwingCity x = Due.city("sills 2;rope 0 1 2 0;");
        driftIs(x, 0, 11, 1, 4, 6);
        driftIs(x, 0, 1111, 1, 8, 12);
        driftIs(x, 0, 1111, 2, 8, 16);
    }

    private void whereItEnds() {
        due.by("Terms", "of all these the least, the greatest minute in which the ROUTE ends (where it does)");
        // Of 9, 10 and 11, each taken in a multiple of its double, from 990 on.
        SwingCity x = Due.city("sills 2;rope 0 1 9 0;");
        driftIs(x, 990, 1, 0, 999, 999);
        driftIs(x, 990, 1, 2, 999, 999);
        driftIs(x, 980, 1, 2, 990, 999);
        // Sill 1 is open in 0 .. 2 of 9: with a BEAT of 3 or 4 one falls.
        SwingCity y = Due.city("sills 2;door 1 9 3;rope 0 1 2 0;");
        driftIs(y, 0, 1, 2, 2, 2);
        // With a BEAT of 8 one falls, with one of 9 or 10 not.
        SwingCity z = Due.city("sills 2;door 1 9 2;rope 0 1 8 0;");
        driftIs(z, 0, 1, 0, NONE, NONE);
        driftIs(z, 0, 1, 1, 9, 9);
        driftIs(z, 0, 1, 2, 9, 10);
    }

    private void driftNever() {
        due.by("Terms", "NONE: never.");
        SwingCity x = Due.city("sills 3;door 1 9 1;rope 0 1 2 0;rope 1 2 1 0;rope 0 2 1 0;");
        driftIs(x, 0, 1, 2, NONE, NONE);
        driftIs(x, 0, 2, 2, NONE, NONE);
        driftIs(x, 0, 4, 2, NONE, NONE);
        driftIs(x, 0, 31, 2, NONE, NONE);
        driftIs(x, 999, 3, 2, NONE, NONE);
        driftIs(x, 0, 3, 2, 1, 3);
        x.stop(2);
        driftIs(x, 0, 3, 2, NONE, NONE);
    }

    // ---- Terms, section 3: TUNE

    // Sill 1 is open in 0, 8, 16: from START 0 only a BEAT of 8 comes there. One of 9 comes where one of 1 does, too.
    private void tunedBeatIsOneToNine() {
        due.by("Terms", "TUNE of a ROPE: the BEAT (1 .. 9) by which SOONEST is least");
        SwingCity x = Due.city("sills 3;door 1 8 1;rope 0 1 3 0;rope 0 2 3 0;");
        tuneIs(x, 0, 0, 1, 8, 8);
        tuneIs(x, 0, 1, 1, 8, 24);
        tuneIs(x, 1, 0, 2, 1, 1);
        // A BEAT of 0 would come in 0, in no time.
        SwingCity z = Due.city("sills 2;rope 0 1 9 0;");
        tuneIs(z, 0, 0, 1, 1, 1);
    }

    private void startAsItIs() {
        due.by("Terms", "(START as it is; STOPPED or not, it goes then)");
        SwingCity x = Due.city("sills 3;door 1 9 1;rope 0 1 5 4;rope 1 2 1 0;");
        tuneIs(x, 0, 9, 1, 2, 18);
        x.stop(0);
        soonestIs(x, 0, 9, 1, NONE, NONE);
        tuneIs(x, 0, 9, 1, 2, 18);
        due.is("it is stopped still", x.rope(0, 4), 1);
        due.is("its BEAT", x.rope(0, 2), 5);
        x.stop(1);
        tuneIs(x, 0, 0, 2, NONE, NONE);
        x.undo();
        tuneIs(x, 0, 0, 2, 1, 11);
        x.push(0, 999);
        due.is("START", x.rope(0, 3), 999);
        tuneIs(x, 0, 9, 1, 1, 18);
    }

    // Sill 1 is open in 0, 6, 12: a BEAT of 2 comes there in 6, and one of 6, too.
    private void ofSeveralTheLeast() {
        due.by("Terms", "of several the least");
        SwingCity x = Due.city("sills 3;door 1 6 1;rope 0 1 9 0;rope 0 2 5 0;");
        tuneIs(x, 0, 0, 1, 2, 6);
        tuneIs(x, 0, 0, 0, 1, 0);
        tuneIs(x, 0, 0, 2, 1, 5);
    }

    private void byNone() {
        due.by("Terms", "NONE: by none.");
        SwingCity x = Due.city("sills 3;rope 0 1 5 0;");
        tuneIs(x, 0, 0, 2, NONE, NONE);
        tuneIs(x, 0, 999, 1, NONE, NONE);
        tuneIs(x, 0, 998, 1, 1, 999);
        tuneIs(x, 0, 999, 0, 1, 999);
    }

    // ---- Terms, section 3: SEEN, FITS

    private void sixAreSeen() {
        due.by("Terms", "SEEN (6 at most): somebody was on a SILL in a minute.");
        SwingCity x = new SwingCity();
        for (int i = 1; i <= 6; i++) {
            due.is("saw()", x.saw(i == 6 ? 3 : 0, i), i);
        }
        due.is("a seventh", x.saw(0, 7), FULL);
        due.is("count(3)", x.count(3), 6);
        due.is("the sixth counts", x.fits(1, 0, 0), 0);
        x.forget();
        for (int i = 1; i <= 6; i++) {
            due.is("saw() again", x.saw(0, 5), i);
        }
        due.is("a seventh again", x.saw(3, 5), FULL);
        due.is("the seventh does not count", x.fits(1, 0, 0), 1);
    }

    private void rowsOfNoneToFour() {
        due.by("Terms", "FITS of a GRIP, from a SILL in minute 0, n (0 .. 4)");
        SwingCity x = Due.city("sills 2;" + "rope 0 1 1 0;".repeat(8));
        int[] rows = {1, 8, 64, 512, 4096};
        for (int n = 0; n <= 4; n++) {
            due.is("fits(1, 0, " + n + ")", x.fits(1, 0, n), rows[n]);
        }
        due.is("n -1", x.fits(1, 0, -1), BAD);
        due.is("n 5", x.fits(1, 0, 5), BAD);
        due.is("without ropes, none of them", new SwingCity().fits(1, 0, 0), 1);
        due.is("without ropes, one of them", new SwingCity().fits(1, 0, 1), 0);
    }

    // Sill 1 is open in 0, 9, 18; rope 0 is at 0 in even minutes, rope 1 in odd ones.
    private void rowsThatAreARoute() {
        due.by("Terms", "how many rows of n ROPES are a ROUTE by which one is so: on the SILL in each minute SEEN");
        SwingCity x = Due.city("sills 3;door 1 9 1;rope 0 1 1 0;rope 0 1 1 1;rope 1 2 1 0;rope 0 2 9 0;");
        due.is("GRIP 1: rope 3 alone", x.fits(1, 0, 1), 1);
        due.is("GRIP 2: back by rope 0, rope 1, or rope 3", x.fits(2, 0, 1), 3);
        x.saw(0, 2);
        due.is("seen on 0 in 2", x.fits(2, 0, 1), 1);
        x.saw(0, 3);
        due.is("and in 3", x.fits(2, 0, 1), 1);
        x.saw(0, 1);
        due.is("and in 1", x.fits(2, 0, 1), 0);
        x.forget();
        x.stop(3);
        due.is("rope 3 is stopped", x.fits(2, 0, 1), 2);
        due.is("from 1, ropes 0 to 2", x.fits(5, 1, 1), 3);
    }

    // Rope 0: at 0 in 1, 5, at 1 in 3, 7; rope 1: at 1 in 2, 6, at 2 in 4, 8. One is on 0 in 0 .. 1, on 1 in 3 .. 6.
    private void bothMinutesToo() {
        due.by("Terms", "(from each end of a RIDE on until the next one is taken, both minutes too");
        int[][] seen = {{0, 0, 1}, {0, 1, 1}, {0, 2, 0}, {1, 2, 0}, {1, 3, 1}, {0, 3, 0}, {1, 4, 1}, {1, 6, 1}, {1, 7, 0},
            {2, 7, 0}, {2, 8, 1}, {1, 8, 0}, {1, 0, 0}};
        for (int[] s : seen) {
            SwingCity x = Due.city("sills 3;rope 0 1 2 1;rope 1 2 2 2;");
            x.saw(s[0], s[1]);
            // With rope 0 twice one is on 0 again in 5: that row fits what is seen on 0, and on 1 in 3.
            int twice = s[0] == 0 && (s[1] <= 1 || s[1] >= 5) || s[0] == 1 && s[1] == 3 ? 1 : 0;
            due.is("seen on " + s[0] + " in " + s[1], x.fits(1, 0, 2), s[2] + twice);
        }
        // Taken in the minute in which the one ahead ends: on 1 in 3 alone.
        int[][] once = {{1, 2, 0}, {1, 3, 1}, {1, 4, 0}, {0, 4, 0}, {0, 5, 1}};
        for (int[] s : once) {
            SwingCity x = Due.city("sills 2;rope 0 1 2 1;");
            x.saw(s[0], s[1]);
            due.is("by one rope twice, seen on " + s[0] + " in " + s[1], x.fits(1, 0, 2), s[2]);
        }
    }

    private void behindTheLastEnd() {
        due.by("Terms", "behind the last end ever)");
        int[][] seen = {{1, 3}, {1, 4}, {1, 500}, {1, 999}};
        for (int[] s : seen) {
            SwingCity x = Due.city("sills 2;rope 0 1 2 1;");
            x.saw(s[0], s[1]);
            due.is("one ride, seen on 1 in " + s[1], x.fits(1, 0, 1), 1);
            due.is("no ride, seen on 1 in " + s[1], x.fits(1, 0, 0), 0);
            due.is("no ride, from 1, seen on 1 in " + s[1], x.fits(1, 1, 0), 1);
        }
    }

    // ---- Promises 15 to 18

    private void soonestBad() {
        due.by("Promise 15", "SOONEST: the minute (what = 0), the RIDES (1); NONE. BAD (minute 0 .. 999).");
        SwingCity x = Due.city("sills 2;rope 0 1 1 0;");
        soonestIs(x, 0, 0, 1, 1, 1);
        soonestIs(x, 0, 998, 1, 999, 1);
        soonestIs(x, 0, 999, 1, NONE, NONE);
        int[][] bad = {{-1, 0, 1, 0}, {2, 0, 1, 0}, {0, -1, 1, 0}, {0, 1000, 1, 0}, {0, 0, -1, 0}, {0, 0, 2, 0},
            {0, 0, 1, -1}, {0, 0, 1, 2}, {0, -1, 0, 0}, {0, 1000, 0, 0}, {2, 0, 2, 0}, {LEAST, 0, 1, 0}, {MOST, 0, 1, 0},
            {0, LEAST, 1, 0}, {0, MOST, 1, 0}, {0, 0, LEAST, 0}, {0, 0, MOST, 0}, {0, 0, 1, LEAST}, {0, 0, 1, MOST}};
        for (int[] b : bad) {
            due.is("soonest(" + b[0] + ", " + b[1] + ", " + b[2] + ", " + b[3] + ")", x.soonest(b[0], b[1], b[2], b[3]), BAD);
        }
    }

    private void routeOfNoneToSix() {
        due.by("Promise 16", "ROUTE with a GRIP (1 .. 5) from a SILL in a minute (0: of none; 6 ROPES at most):"
            + " the minute (what = 0), the SILL (1)");
        SwingCity x = Due.city("sills 2;rope 0 1 1 0;");
        routeIs(x, 1, 1, 7, 0, 7, 1);
        routeIs(x, 5, 0, 999, 0, 999, 0);
        routeIs(x, 1, 0, 0, 111111, 6, 0);
        routeIs(x, 1, 0, 0, 1111111, BAD, BAD);
        routeIs(x, 0, 0, 0, 1, BAD, BAD);
        routeIs(x, 1, 0, 0, 1, 1, 1);
        routeIs(x, 5, 0, 0, 1, 1, 1);
        routeIs(x, 6, 0, 0, 1, BAD, BAD);
    }

    private void routeThatCanNotBe() {
        due.by("Promise 16", "-10 less the first that can not be.");
        SwingCity x = Due.city("sills 2;rope 0 1 1 0;");
        routeIs(x, 1, 0, 0, 2, -10, -10);
        routeIs(x, 1, 0, 0, 111118, -15, -15);
    }

    private void routeBad() {
        due.by("Promise 16", "BAD (a figure is none, too).");
        SwingCity x = Due.city("sills 2;rope 0 1 1 0;");
        int[] figures = {9, 10, 19, 91, 101, 100000, 900000, 111119, 111110, 119111, 1011, 1000000, 1111110, 2111111,
            -1, -9, -111111, LEAST, MOST, 1 << 30};
        for (int ropes : figures) {
            routeIs(x, 1, 0, 0, ropes, BAD, BAD);
        }
        // BAD also where a ride ahead of the figure can not be.
        routeIs(x, 1, 0, 0, 29, BAD, BAD);
        routeIs(x, 1, 0, 0, 20, BAD, BAD);
        int[][] bad = {{0, 0, 0, 0}, {6, 0, 0, 0}, {LEAST, 0, 0, 0}, {MOST, 0, 0, 0}, {1, -1, 0, 0}, {1, 2, 0, 0},
            {1, LEAST, 0, 0}, {1, MOST, 0, 0}, {1, 0, -1, 0}, {1, 0, 1000, 0}, {1, 0, LEAST, 0}, {1, 0, MOST, 0},
            {1, 0, 0, -1}, {1, 0, 0, 2}, {1, 0, 0, LEAST}, {1, 0, 0, MOST}};
        for (int[] b : bad) {
            for (int ropes = 0; ropes <= 2; ropes++) {
                due.is("route(" + b[0] + ", " + b[1] + ", " + b[2] + ", " + ropes + ", " + b[3] + ")",
                    x.route(b[0], b[1], b[2], ropes, b[3]), BAD);
            }
        }
    }

    private void driftOfNone() {
        due.by("Promise 17", "DRIFT: the least (what = 0), the greatest (1); NONE.");
        SwingCity x = Due.city("sills 2;rope 0 1 1 0;");
        driftIs(x, 0, 0, 2, 0, 0);
        driftIs(x, 999, 0, 0, 999, 999);
        driftIs(x, 0, 1, 2, 1, 3);
        driftIs(x, 999, 1, 2, NONE, NONE);
    }

    private void driftBad() {
        due.by("Promise 17", "BAD (as route(); 4 ROPES at most).");
        SwingCity x = Due.city("sills 2;rope 0 1 1 0;");
        driftIs(x, 0, 1111, 0, 4, 4);
        int[] figures = {11111, 10000, 9, 10, 109, 1119, 9111, 1011, 111111, -1, -1111, LEAST, MOST, 29, 20};
        for (int ropes : figures) {
            driftIs(x, 0, ropes, 0, BAD, BAD);
        }
        int[][] bad = {{0, 0, 0, 0, 0}, {6, 0, 0, 0, 0}, {LEAST, 0, 0, 0, 0}, {MOST, 0, 0, 0, 0}, {1, -1, 0, 0, 0},
            {1, 2, 0, 0, 0}, {1, LEAST, 0, 0, 0}, {1, MOST, 0, 0, 0}, {1, 0, -1, 0, 0}, {1, 0, 1000, 0, 0},
            {1, 0, LEAST, 0, 0}, {1, 0, MOST, 0, 0}, {1, 0, 0, -1, 0}, {1, 0, 0, 3, 0}, {1, 0, 0, 0, -1}, {1, 0, 0, 0, 2},
            {1, 0, 0, 0, LEAST}, {1, 0, 0, 0, MOST}};
        for (int[] b : bad) {
            for (int ropes = 0; ropes <= 2; ropes++) {
                due.is("drift(" + b[0] + ", " + b[1] + ", " + b[2] + ", " + ropes + ", " + b[3] + ", " + b[4] + ")",
                    x.drift(b[0], b[1], b[2], ropes, b[3], b[4]), BAD);
            }
        }
    }

    private void tuneBad() {
        due.by("Promise 18", "TUNE: the BEAT (what = 0), the minute (1); NONE. BAD.");
        SwingCity x = Due.city("sills 2;rope 0 1 5 0;");
        tuneIs(x, 0, 0, 1, 1, 1);
        tuneIs(x, 0, 999, 1, NONE, NONE);
        int[][] bad = {{-1, 0, 0, 1, 0}, {1, 0, 0, 1, 0}, {LEAST, 0, 0, 1, 0}, {MOST, 0, 0, 1, 0}, {0, -1, 0, 1, 0},
            {0, 2, 0, 1, 0}, {0, LEAST, 0, 1, 0}, {0, MOST, 0, 1, 0}, {0, 0, -1, 1, 0}, {0, 0, 1000, 1, 0},
            {0, 0, LEAST, 1, 0}, {0, 0, MOST, 1, 0}, {0, 0, 0, -1, 0}, {0, 0, 0, 2, 0}, {0, 0, 0, LEAST, 0},
            {0, 0, 0, MOST, 0}, {0, 0, 0, 1, -1}, {0, 0, 0, 1, 2}, {0, 0, 0, 1, LEAST}, {0, 0, 0, 1, MOST}, {0, 0, -1, 0, 0}};
        for (int[] b : bad) {
            due.is("tune(" + b[0] + ", " + b[1] + ", " + b[2] + ", " + b[3] + ", " + b[4] + ")",
                x.tune(b[0], b[1], b[2], b[3], b[4]), BAD);
        }
        due.is("without ropes", new SwingCity().tune(0, 0, 0, 0, 0), BAD);
    }

    // ---- Promises 19 to 21

    private void seeing() {
        due.by("Promise 19", "SEEN: how much there is.");
        SwingCity x = new SwingCity();
        int[][] seen = {{0, 0}, {3, 999}, {3, 999}, {0, 0}, {1, 1}, {2, 998}};
        for (int i = 0; i < seen.length; i++) {
            due.is("saw(" + seen[i][0] + ", " + seen[i][1] + ")", x.saw(seen[i][0], seen[i][1]), i + 1);
            due.is("count(3)", x.count(3), i + 1);
        }
    }

    private void seeingBad() {
        due.by("Promise 19", "BAD (minute 0 .. 999)");
        SwingCity x = new SwingCity();
        int[][] bad = {{-1, 0}, {4, 0}, {LEAST, 0}, {MOST, 0}, {0, -1}, {0, 1000}, {0, LEAST}, {0, MOST}};
        for (int[] b : bad) {
            due.is("saw(" + b[0] + ", " + b[1] + ")", x.saw(b[0], b[1]), BAD);
        }
        due.is("nothing is seen", x.count(3), 0);
        due.is("saw(0, 0)", x.saw(0, 0), 1);
        due.is("saw(3, 999)", x.saw(3, 999), 2);
    }

    private void seeingFull() {
        due.by("Promise 19", "FULL.");
        SwingCity x = new SwingCity();
        for (int i = 0; i < 6; i++) {
            x.saw(1, 5);
        }
        due.is("a seventh", x.saw(1, 5), FULL);
        due.is("another seventh", x.saw(0, 0), FULL);
        due.is("a bad seventh: sill", x.saw(4, 0), BAD);
        due.is("a bad seventh: minute", x.saw(0, 1000), BAD);
        due.is("count(3)", x.count(3), 6);
        due.is("on 1 alone", x.fits(1, 1, 0), 1);
    }

    private void forgetting() {
        due.by("Promise 20", "Nothing was SEEN: how much there was.");
        SwingCity x = new SwingCity();
        due.is("nothing", x.forget(), 0);
        x.saw(1, 5);
        due.is("from 0 it does not fit", x.fits(1, 0, 0), 0);
        due.is("one", x.forget(), 1);
        due.is("count(3)", x.count(3), 0);
        due.is("from 0 it fits", x.fits(1, 0, 0), 1);
        due.is("nothing again", x.forget(), 0);
        for (int i = 0; i < 7; i++) {
            x.saw(1, 5);
        }
        due.is("six", x.forget(), 6);
        due.is("there is room", x.saw(0, 0), 1);
    }

    private void fitsBad() {
        due.by("Promise 21", "FITS. BAD.");
        SwingCity x = Due.city("sills 2;rope 0 1 1 0;");
        due.is("fits(1, 0, 0)", x.fits(1, 0, 0), 1);
        due.is("fits(5, 1, 4)", x.fits(5, 1, 4), 1);
        int[][] bad = {{0, 0, 0}, {6, 0, 0}, {LEAST, 0, 0}, {MOST, 0, 0}, {1, -1, 0}, {1, 2, 0}, {1, LEAST, 0}, {1, MOST, 0},
            {1, 0, -1}, {1, 0, 5}, {1, 0, LEAST}, {1, 0, MOST}};
        for (int[] b : bad) {
            due.is("fits(" + b[0] + ", " + b[1] + ", " + b[2] + ")", x.fits(b[0], b[1], b[2]), BAD);
        }
    }

    void run() {
        nothingIsChanged();
        byMinute999();
        waitingAsOneLikes();
        fewestRidesOrNone();
        fromTheEndOfTheOneAhead();
        figuresAreOneToEight();
        theFirstThatCanNotBe();
        noSuchRope();
        aStoppedRope();
        aRopeThatIsNotHere();
        aFall();
        beyond999();
        driftIsNoughtToTwo();
        upToDMore();
        theSameForAllRides();
        whereItEnds();
        driftNever();
        tunedBeatIsOneToNine();
        startAsItIs();
        ofSeveralTheLeast();
        byNone();
        sixAreSeen();
        rowsOfNoneToFour();
        rowsThatAreARoute();
        bothMinutesToo();
        behindTheLastEnd();
        runPromises();
    }

    private void runPromises() {
        soonestBad();
        routeOfNoneToSix();
        routeThatCanNotBe();
        routeBad();
        driftOfNone();
        driftBad();
        tuneBad();
        seeing();
        seeingBad();
        seeingFull();
        forgetting();
        fitsBad();
    }
}
