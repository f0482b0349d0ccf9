/** Promises 22 to 24 and 26: rate, keep, back, trace. */
public final class KindsTest {
    private static final Due DUE = new Due("KindsTest");
    private static final int BAD = -1, STATE = -2, NO = -1000000;

    private static void rates() {
        SwingCity x = Due.city("sills 5;rope 0 1 2 0;rope 0 1 3 0;rider 4 3 40;rider 0 5 10;");
        x.waits(0, 7);
        x.stop(0);
        x.stop(1);
        int[] rates = {40, 43, 33, 86, 37, 42};
        int[] marks = {1, 11, 101, 1011, 10101, 100001};
        long trace = 0;
        for (int kind = 0; kind < rates.length; kind++) {
            DUE.is("rate(" + kind + ", 0)", x.rate(kind, 0), rates[kind]);
            trace += marks[kind];
            DUE.is("trace() behind " + kind, x.trace(), trace);
        }
        DUE.is("rate(-1, 0)", x.rate(-1, 0), NO);
        DUE.is("rate(6, 0)", x.rate(6, 0), NO);
        DUE.is("rate(0, -1)", x.rate(0, -1), NO);
        DUE.is("rate(0, 2)", x.rate(0, 2), NO);
        DUE.is("refused ones leave no trace", x.trace(), trace);
        x.push(1, 5);
        DUE.is("one is stopped", x.rate(5, 1), 11);
        x.waits(1, 99);
        DUE.is("10 less 99", x.rate(2, 1), -89);
        DUE.is("trace()", x.trace(), trace + 100001 + 101);
    }

    private static void theOutAreRated() {
        SwingCity x = Due.city("sills 2;door 1 9 1;rope 0 1 2 0;rider 0 1 9;");
        DUE.is("falls", x.go(0, 0), 1002);
        DUE.is("rated as a midwife", x.rate(4, 0), 7 - 2 + 1);
    }

    private static void images() {
        SwingCity x = Due.city("sills 2;door 1 9 5;rope 0 1 2 0;rider 0 1 9;rider 0 1 9;");
        DUE.is("keep(-1)", x.keep(-1), BAD);
        DUE.is("keep(2)", x.keep(2), BAD);
        DUE.is("back(-1)", x.back(-1), BAD);
        DUE.is("back(2)", x.back(2), BAD);
        DUE.is("back(0)", x.back(0), STATE);
        x.go(0, 0);
        x.go(1, 0);
        DUE.is("met", x.meets(), 1);
        DUE.is("keep(1)", x.keep(1), 2);
        DUE.is("the other was not kept", x.back(0), STATE);
        x.undo();
        x.stop(0);
        x.push(0, 9);
        x.waits(1, 3);
        DUE.is("falls", x.go(1, 0), 1007);
        x.saw(0, 3);
        x.rate(0, 0);
        Due.type(x, "door");
        DUE.is("keep(0)", x.keep(0), 1);
        DUE.is("back(1)", x.back(1), 2);
        asKept(x);
        DUE.is("undo() of the image's", x.undo(), 1);
        DUE.is("undo() of the image's", x.undo(), 0);
        DUE.is("undone", x.rider(0, 1), 0);
        DUE.is("undone, not met", x.meets(), 0);
        DUE.is("back(1) again", x.back(1), 2);
        asKept(x);
        DUE.is("back(0)", x.back(0), 1);
        DUE.is("OUT again", x.rider(1, 4), 1);
        DUE.is("pushed again", x.rope(0, 3), 9);
        DUE.is("what may be undone", x.count(4), 5);
        DUE.is("not met", x.meets(), 0);
        DUE.is("undo()", x.undo(), 4);
        DUE.is("kept anew", x.keep(1), 2);
        x.waits(1, 50);
        x.back(1);
        DUE.is("the later keep counts", x.rider(1, 1), 3);
        DUE.is("what may be undone then", x.count(4), 4);
    }

    private static void asKept(SwingCity x) {
        DUE.is("back: met", x.meets(), 1);
        DUE.is("back: minute", x.rider(1, 1), 2);
        DUE.is("back: sill", x.rider(1, 0), 1);
        DUE.is("back: OUT", x.rider(1, 4), 0);
        DUE.is("back: START", x.rope(0, 3), 0);
        DUE.is("back: what may be undone", x.count(4), 2);
        DUE.is("not in an image: SEEN", x.count(3), 1);
        DUE.is("not in an image: THE TEXT", x.count(5), 4);
        DUE.is("not in an image: THE TRACE", x.trace(), 1);
    }

    public static void main(String[] args) {
        rates();
        theOutAreRated();
        images();
        DUE.end();
    }
}
