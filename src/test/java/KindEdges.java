import java.util.function.Supplier;
import java.util.function.ToIntFunction;

/** The edges of kinds, images and refused calls: section 4 of the Terms, promises 22 to 24 and 26. */
final class KindEdges {
    private static final int BAD = Sentences.BAD, STATE = Sentences.STATE, FULL = Sentences.FULL, NO = Sentences.NO;
    private static final int LEAST = Sentences.LEAST, MOST = Sentences.MOST;
    private static final long BLANKS = 0x2020202020202020L;

    private final Sentences due;

    KindEdges(Sentences due) {
        this.due = due;
    }

    // ---- Terms, section 4

    private void kindsOverOneAnother() {
        due.by("Terms", "0 RIDER; 1 CHILD, 2 PORTER, 5 LOVER (each under RIDER); 3 THIEF (under CHILD);"
            + " 4 MIDWIFE (under PORTER).");
        int[] traces = {1, 11, 101, 1011, 10101, 100001};
        for (int kind = 0; kind < traces.length; kind++) {
            SwingCity x = Due.city("rider 3 2 50;");
            x.rate(kind, 0);
            due.is("trace() of kind " + kind, x.trace(), traces[kind]);
        }
    }

    private void traceOfBodies() {
        due.by("Terms", "(numbers in brackets are added to THE TRACE, 0 at first, as often as rate() asks that body: each once;");
        SwingCity x = Due.city("rider 3 2 50;");
        due.is("at first", x.trace(), 0);
        long trace = 0;
        int[] traces = {1, 11, 101, 1011, 10101, 100001};
        for (int times = 1; times <= 3; times++) {
            for (int kind = 0; kind < traces.length; kind++) {
                x.rate(kind, 0);
                trace += traces[kind];
                due.is("trace() of kind " + kind + ", " + times, x.trace(), trace);
            }
        }
        due.is("a refused one", x.rate(6, 0), NO);
        due.is("adds nothing", x.trace(), trace);
    }

    /** All six rates of rider 0. */
    private void ratesAre(String when, SwingCity x, int... rates) {
        for (int kind = 0; kind < rates.length; kind++) {
            due.is(when + ": rate(" + kind + ", 0)", x.rate(kind, 0), rates[kind]);
        }
    }

    private void ratesAtTheirEdges() {
        due.by("Terms", "RIDER its PURSE (1). CHILD up, and its GRIP (10). PORTER up less its minute (100)."
            + " THIEF twice up (1000). MIDWIFE up, and its SILL (10000). LOVER up, and how many ROPES are STOPPED (100000).");
        ratesAre("the least", Due.city("rider 0 1 0;"), 0, 1, 0, 2, 0, 0);
        ratesAre("the most", Due.city("sills 8;rider 7 5 99;"), 99, 104, 99, 208, 106, 99);
        SwingCity late = Due.city("sills 8;" + "rope 0 1 1 0;".repeat(8) + "rider 7 5 0;");
        for (int i = 0; i < 10; i++) {
            late.waits(0, 99);
        }
        late.waits(0, 9);
        for (int k = 0; k < 8; k++) {
            due.is("stopped", late.stop(k), 1);
        }
        ratesAre("minute 999, all stopped", late, 0, 5, -999, 10, -992, 8);
        late.push(7, 0);
        due.is("one is pushed", late.rate(5, 0), 7);
    }

    private void imagesKeepNow() {
        due.by("Terms", "IMAGES 0, 1 keep NOW (RIDERS, ROPES, what may be UNDONE, RIDES for MEETS); nothing else.");
        SwingCity x = Due.city("sills 2;rope 0 1 2 0;rider 0 1 9;rider 0 1 9;");
        x.go(0, 0);
        x.go(1, 0);
        x.keep(1);
        x.undo();
        x.waits(1, 50);
        x.push(0, 77);
        x.stop(0);
        x.saw(1, 3);
        x.rate(0, 0);
        x.type(BLANKS, 5);
        due.is("back(1)", x.back(1), 2);
        int[] rider = {1, 2, 1, 7, 0};
        int[] rope = {0, 1, 2, 0, 0};
        for (int what = 0; what < 5; what++) {
            due.is("rider(1, " + what + ")", x.rider(1, what), rider[what]);
            due.is("rope(0, " + what + ")", x.rope(0, what), rope[what]);
        }
        due.is("RIDES for MEETS", x.meets(), 1);
        due.is("SEEN is not kept", x.count(3), 1);
        due.is("THE TEXT is not kept", x.count(5), 5);
        due.is("THE TRACE is not kept", x.trace(), 1);
        due.is("what may be UNDONE", x.undo(), 1);
        due.is("what may be UNDONE, last", x.undo(), 0);
        due.is("no more", x.undo(), STATE);
        due.is("his minute", x.rider(0, 1), 0);
        due.is("no rides", x.meets(), 0);
        due.is("the image stays", x.back(1), 2);
        due.is("it has what may be UNDONE", x.count(4), 2);
    }

    private void readAnew() {
        due.by("Terms", "(Read anew: as told, nothing SEEN, IMAGES are gone.)");
        SwingCity x = Due.city("sills 2;door 0 9 9;rope 0 1 2 0;rider 0 1 9;rider 0 1 9;");
        x.go(0, 0);
        x.go(1, 0);
        x.stop(0);
        x.saw(1, 3);
        x.keep(0);
        x.keep(1);
        Due.type(x, "sills 2;rope 0 1 2 0;rider 0 1 9;rider 0 1 9;");
        due.is("city()", x.city(), 4);
        SwingCity twin = Due.city("sills 2;rope 0 1 2 0;rider 0 1 9;rider 0 1 9;");
        due.is("image 0 is gone", x.back(0), STATE);
        due.is("image 1 is gone", x.back(1), STATE);
        due.is("nothing is seen", x.count(3), 0);
        due.same("as told", Twins.all(x), Twins.all(twin));
    }

    /** A call that is refused: twins, of which one alone was asked, are the same behind it. */
    private void refused(String call, Supplier<SwingCity> past, ToIntFunction<SwingCity> asked, int answer) {
        SwingCity x = past.get();
        due.is(call, asked.applyAsInt(x), answer);
        due.same(call + ", then", Twins.all(x), Twins.all(past.get()));
    }

    /** Rider 0 is OUT, rider 1 in minute 999, rope 0 stopped, rope 1 is not at rider 1; an image is kept. */
    private static SwingCity late() {
        SwingCity x = Due.city("sills 3;door 1 9 1;rope 0 1 2 0;rope 0 2 1 1;rider 0 1 9;rider 2 1 9;rider 0 1 9;");
        x.go(0, 0);
        for (int i = 0; i < 10; i++) {
            x.waits(1, 99);
        }
        x.waits(1, 9);
        x.stop(0);
        x.keep(1);
        return x;
    }

    private static SwingCity full() {
        SwingCity x = new SwingCity();
        for (int i = 0; i < 6; i++) {
            x.saw(i % 4, i);
        }
        for (int i = 0; i < 37; i++) {
            x.type(BLANKS, 8);
        }
        return x;
    }

    private void refusedCallsChangeNothing() {
        due.by("Terms", "Refused, and nothing changes");
        refused("type(59, 0)", Twins::busy, x -> x.type(59, 0), BAD);
        refused("type(59, 9)", Twins::busy, x -> x.type(59, 9), BAD);
        refused("go(2, 0)", Twins::busy, x -> x.go(2, 0), BAD);
        refused("go(0, 1)", Twins::busy, x -> x.go(0, 1), BAD);
        refused("waits(2, 1)", Twins::busy, x -> x.waits(2, 1), BAD);
        refused("waits(0, 0)", Twins::busy, x -> x.waits(0, 0), BAD);
        refused("waits(0, 100)", Twins::busy, x -> x.waits(0, 100), BAD);
        refused("stop(1)", Twins::busy, x -> x.stop(1), BAD);
        refused("push(1, 0)", Twins::busy, x -> x.push(1, 0), BAD);
        refused("push(0, -1)", Twins::busy, x -> x.push(0, -1), BAD);
        refused("push(0, 1000)", Twins::busy, x -> x.push(0, 1000), BAD);
        refused("saw(2, 0)", Twins::busy, x -> x.saw(2, 0), BAD);
        refused("saw(0, 1000)", Twins::busy, x -> x.saw(0, 1000), BAD);
        refused("rate(6, 0)", Twins::busy, x -> x.rate(6, 0), NO);
        refused("rate(5, 2)", Twins::busy, x -> x.rate(5, 2), NO);
        refused("keep(2)", Twins::busy, x -> x.keep(2), BAD);
        refused("keep(-1)", Twins::busy, x -> x.keep(-1), BAD);
        refused("back(2)", Twins::busy, x -> x.back(2), BAD);
        refused("back(-1)", Twins::busy, x -> x.back(-1), BAD);
        refused("tune(1, 0, 0, 1, 0)", Twins::busy, x -> x.tune(1, 0, 0, 1, 0), BAD);
        refused("drift(1, 0, 0, 9, 1, 0)", Twins::busy, x -> x.drift(1, 0, 0, 9, 1, 0), BAD);
        refused("fits(6, 0, 1)", Twins::busy, x -> x.fits(6, 0, 1), BAD);
        refused("go() of who is OUT", KindEdges::late, x -> x.go(0, 1), STATE);
        refused("go() by a stopped rope", KindEdges::late, x -> x.go(2, 0), STATE);
        refused("go() by a rope elsewhere", KindEdges::late, x -> x.go(1, 0), STATE);
        refused("go() beyond 999", KindEdges::late, x -> x.go(1, 1), STATE);
        refused("waits() of who is OUT", KindEdges::late, x -> x.waits(0, 1), STATE);
        refused("waits() beyond 999", KindEdges::late, x -> x.waits(1, 1), STATE);
        refused("stop() again", KindEdges::late, x -> x.stop(0), STATE);
        refused("back(0), not kept", KindEdges::late, x -> x.back(0), STATE);
        refused("undo() of none", KindEdges::full, x -> x.undo(), STATE);
        refused("type() beyond 300", KindEdges::full, x -> x.type(59, 5), FULL);
        refused("saw() of a seventh", KindEdges::full, x -> x.saw(0, 0), FULL);
    }

    private void badIsFirst() {
        due.by("Terms", "the first of these: BAD (a number is not as told, or there is no such thing), STATE (as told), FULL.");
        SwingCity late = late();
        due.is("go() of who is OUT, by no rope", late.go(0, 2), BAD);
        due.is("go() of nobody, by a stopped rope", late.go(3, 0), BAD);
        due.is("waits() of who is OUT, 100", late.waits(0, 100), BAD);
        due.is("waits() in 999, 0", late.waits(1, 0), BAD);
        due.is("back() of no image", late.back(2), BAD);
        due.is("back() of one not kept", late.back(0), STATE);
        SwingCity full = full();
        due.is("type() on a full text, n 9", full.type(59, 9), BAD);
        due.is("type() on a full text, n 0", full.type(59, 0), BAD);
        due.is("type() on a full text", full.type(59, 5), FULL);
        due.is("saw() of a seventh on no sill", full.saw(4, 0), BAD);
        due.is("saw() of a seventh in no minute", full.saw(0, 1000), BAD);
        due.is("saw() of a seventh", full.saw(0, 0), FULL);
    }

    private void noIsWhatNoneIs() {
        due.by("Terms", "`NO = -1000000`: What none is, where a number may be below 0.");
        due.is("NO", SwingCity.NO, -1000000);
        SwingCity x = Due.city("rider 0 1 0;");
        x.waits(0, 1);
        due.is("-1 is a rate, not BAD", x.rate(2, 0), -1);
        due.is("no rate", x.rate(2, 1), -1000000);
    }

    // ---- Promises 22 to 24, 26

    private void ratingBad() {
        due.by("Promise 22", "RATE. NO: BAD.");
        SwingCity x = Due.city("rider 0 1 5;rider 0 1 7;");
        due.is("rate(0, 0)", x.rate(0, 0), 5);
        due.is("rate(5, 1)", x.rate(5, 1), 7);
        long trace = x.trace();
        int[][] bad = {{-1, 0}, {6, 0}, {LEAST, 0}, {MOST, 0}, {0, -1}, {0, 2}, {0, LEAST}, {0, MOST}, {6, 2}};
        for (int[] b : bad) {
            due.is("rate(" + b[0] + ", " + b[1] + ")", x.rate(b[0], b[1]), NO);
        }
        due.is("no trace", x.trace(), trace);
        due.is("nobody", new SwingCity().rate(0, 0), NO);
        SwingCity fallen = Due.city("sills 2;door 1 9 1;rope 0 1 2 0;rider 0 1 9;");
        due.is("he falls", fallen.go(0, 0), 1002);
        due.is("who is OUT has a rate", fallen.rate(0, 0), 7);
    }

    private void keeping() {
        due.by("Promise 23", "An IMAGE is kept: how many RIDERS are not OUT. BAD.");
        due.is("nobody", new SwingCity().keep(0), 0);
        SwingCity x = Due.city("sills 2;door 1 9 1;rope 0 1 1 0;" + "rider 0 1 9;".repeat(4));
        for (int r = 0; r < 4; r++) {
            due.is("not OUT", x.keep(r % 2), 4 - r);
            x.go(r, 0);
        }
        due.is("all are OUT", x.keep(0), 0);
        int[] bad = {-1, 2, LEAST, MOST};
        for (int image : bad) {
            due.is("keep(" + image + ")", x.keep(image), BAD);
        }
        due.is("image 1 is as it was", x.back(1), 1);
        due.is("image 0 was kept again", x.back(0), 0);
    }

    private void goingBack() {
        due.by("Promise 24", "All of that becomes as an IMAGE has it: how many RIDERS are not OUT.");
        SwingCity x = Due.city("sills 2;door 1 9 1;rope 0 1 1 0;rider 0 1 9;rider 0 1 9;");
        x.keep(0);
        x.go(0, 0);
        x.keep(1);
        x.go(1, 0);
        due.is("back(0)", x.back(0), 2);
        due.is("back(1)", x.back(1), 1);
        due.is("back(0) again", x.back(0), 2);
        due.is("nothing to undo", x.count(4), 0);
        due.is("he goes again", x.go(1, 0), 1001);
        due.is("back(1) again", x.back(1), 1);
        due.is("rider 0 is OUT", x.rider(0, 4), 1);
        due.is("rider 1 is not", x.rider(1, 4), 0);
        due.is("all that is kept: one to undo", x.undo(), 0);
    }

    private void goingBackBad() {
        due.by("Promise 24", "BAD");
        SwingCity x = Due.city("rider 0 1 9;");
        x.keep(0);
        x.keep(1);
        x.waits(0, 5);
        int[] bad = {-1, 2, LEAST, MOST};
        for (int image : bad) {
            due.is("back(" + image + ")", x.back(image), BAD);
        }
        due.is("his minute", x.rider(0, 1), 5);
    }

    private void goingBackToNone() {
        due.by("Promise 24", "STATE: none was kept.");
        for (int image = 0; image < 2; image++) {
            SwingCity x = Due.city("rider 0 1 9;");
            due.is("back(" + image + ")", x.back(image), STATE);
            x.keep(1 - image);
            x.waits(0, 5);
            due.is("the other was kept", x.back(image), STATE);
            due.is("his minute", x.rider(0, 1), 5);
            due.is("back to the other", x.back(1 - image), 1);
            x.city();
            due.is("read anew", x.back(1 - image), STATE);
        }
    }

    private void tracing() {
        due.by("Promise 26", "THE TRACE.");
        SwingCity x = Due.city("rider 0 1 9;");
        due.is("at first", x.trace(), 0);
        for (int i = 1; i <= 400; i++) {
            x.rate(5, 0);
        }
        due.is("400 lovers", x.trace(), 40000400L);
        x.keep(0);
        x.rate(0, 0);
        x.back(0);
        due.is("back() leaves it", x.trace(), 40000401L);
    }

    void run() {
        kindsOverOneAnother();
        traceOfBodies();
        ratesAtTheirEdges();
        imagesKeepNow();
        readAnew();
        refusedCallsChangeNothing();
        badIsFirst();
        noIsWhatNoneIs();
        ratingBad();
        keeping();
        goingBack();
        goingBackBad();
        goingBackToNone();
        tracing();
    }
}
