/** Promises 1 to 8 and 25: a new object, the text, what it tells, doors. */
public final class CityTest {
    private static final Due DUE = new Due("CityTest");
    private static final int BAD = -1, STATE = -2, FULL = -3;

    private static void aNewObject() {
        SwingCity x = new SwingCity();
        int[] counts = {4, 0, 0, 0, 0, 0};
        for (int what = 0; what < counts.length; what++) {
            DUE.is("new: count(" + what + ")", x.count(what), counts[what]);
        }
        for (int s = 0; s < 4; s++) {
            DUE.is("new: TURN of " + s, x.sill(s, 0), 1);
            DUE.is("new: OPEN of " + s, x.sill(s, 1), 1);
        }
        DUE.is("new: sill(4, 0)", x.sill(4, 0), BAD);
        DUE.is("new: rope(0, 0)", x.rope(0, 0), BAD);
        DUE.is("new: rider(0, 0)", x.rider(0, 0), BAD);
        DUE.is("new: undo()", x.undo(), STATE);
        DUE.is("new: meets()", x.meets(), 0);
        DUE.is("new: back(0)", x.back(0), STATE);
        DUE.is("new: back(1)", x.back(1), STATE);
        DUE.is("new: trace()", x.trace(), 0);
        DUE.is("new: clear()", x.clear(), 0);
        DUE.is("new: forget()", x.forget(), 0);
        DUE.is("count(-1)", x.count(-1), BAD);
        DUE.is("count(6)", x.count(6), BAD);
    }

    private static void typing() {
        SwingCity x = new SwingCity();
        DUE.is("type(v, 0)", x.type(59, 0), BAD);
        DUE.is("type(v, 9)", x.type(59, 9), BAD);
        DUE.is("type(v, -1)", x.type(59, -1), BAD);
        DUE.is("type(v, least)", x.type(59, Integer.MIN_VALUE), BAD);
        for (int n = 1; n <= 8; n++) {
            DUE.is("type of " + n, x.type(0x2020202020202020L, n), n * (n + 1) / 2);
        }
        DUE.is("clear()", x.clear(), 36);
        DUE.is("clear() again", x.clear(), 0);
        for (int i = 1; i <= 37; i++) {
            DUE.is("type of 8", x.type(0x2020202020202020L, 8), 8 * i);
        }
        DUE.is("296 and 5", x.type(0, 5), FULL);
        DUE.is("296 and 9", x.type(0, 9), BAD);
        DUE.is("296 and 3", x.type(0x202020, 3), 299);
        DUE.is("299 and 2", x.type(0, 2), FULL);
        DUE.is("299 and 1", x.type(32, 1), 300);
        DUE.is("300 and 1", x.type(32, 1), FULL);
        DUE.is("count(5)", x.count(5), 300);
        DUE.is("300 blanks are a city", x.city(), 0);
        DUE.is("the text is empty", x.count(5), 0);
        // The bytes above the lowest n don't come to the text.
        x.type(0x7a7a7a7a7a7a6472L, 1);
        DUE.is("only r came", x.city(), -10);
        x.clear();
        Due.type(x, "sills 3");
        x.type(0x7a7a7a7a7a7a7a3bL, 1);
        DUE.is("the lowest byte is ;", x.city(), 1);
        DUE.is("three sills", x.count(0), 3);
        x.type(-1L, 8);
        DUE.is("bytes 255", x.city(), -10);
    }

    private static void whatIsTold() {
        SwingCity x = Due.city("  sills 8 ; door 7 9 4;door 0 3 2; door 7 2 9;"
            + "rope 7 0 9 17;rope 0 7 1 0 ;rider 7 5 99;rider 0 1 0;");
        DUE.is("text is empty", x.count(5), 0);
        int[] counts = {8, 2, 2, 0, 0};
        for (int what = 0; what < counts.length; what++) {
            DUE.is("count(" + what + ")", x.count(what), counts[what]);
        }
        int[][] doors = {{3, 2}, {1, 1}, {1, 1}, {1, 1}, {1, 1}, {1, 1}, {1, 1}, {2, 9}};
        row("sill", doors, 2, x);
        row("rope", new int[][] {{7, 0, 9, 17, 0}, {0, 7, 1, 0, 0}}, 5, x);
        row("rider", new int[][] {{7, 0, 5, 99, 0}, {0, 0, 1, 0, 0}}, 5, x);
    }

    private static int ask(SwingCity x, String thing, int i, int what) {
        return thing.equals("sill") ? x.sill(i, what) : thing.equals("rope") ? x.rope(i, what) : x.rider(i, what);
    }

    private static void row(String thing, int[][] rows, int width, SwingCity x) {
        for (int i = 0; i < rows.length; i++) {
            for (int what = 0; what < width; what++) {
                DUE.is(thing + "(" + i + ", " + what + ")", ask(x, thing, i, what), rows[i][what]);
            }
            DUE.is(thing + " what -1", ask(x, thing, i, -1), BAD);
            DUE.is(thing + " what " + width, ask(x, thing, i, width), BAD);
            DUE.is(thing + " what most", ask(x, thing, i, Integer.MAX_VALUE), BAD);
        }
        DUE.is(thing + " -1", ask(x, thing, -1, 0), BAD);
        DUE.is(thing + " " + rows.length, ask(x, thing, rows.length, 0), BAD);
        DUE.is(thing + " least", ask(x, thing, Integer.MIN_VALUE, 0), BAD);
    }

    private static void items() {
        DUE.is("nothing", Due.read(""), 0);
        DUE.is("blanks", Due.read("   "), 0);
        DUE.is("sills 2", Due.read("sills 2;"), 1);
        DUE.is("sills 8", Due.read("sills 8;"), 1);
        DUE.is("no blank is needed", Due.read("sills2;rope0 1 9 17;"), 2);
        DUE.is("without sills there are 4", Due.read("door 3 9 9;rope 3 0 1 0;rider 3 1 0;"), 3);
        DUE.is("8 ropes", Due.read("rope 0 1 1 0;".repeat(8)), 8);
        DUE.is("4 riders", Due.read("rider 0 1 0;".repeat(4)), 4);
        DUE.is("300 bytes", Due.read("door 0 1 1;".repeat(27) + "   "), 27);
        DUE.is("300 bytes that end too early", Due.read("door 0 1 1;".repeat(26) + "door 3 1 1    "), -310);
    }

    private static void faults() {
        Object[][] faults = {
            {"sills 1;", 6}, {"sills 9;", 6}, {"sills 100;", 6}, {"sills 02;", 6}, {"sills 00;", 6},
            {"sills 99999999999999999999;", 6}, {"sills 4294967298;", 6}, {"sills;", 5}, {"sills 2 2;", 8},
            {"sills", 5}, {"sills ", 6}, {"sills 2", 7}, {"sills 2  ", 9}, {"sills 2;sills 2;", 8},
            {"sills 2; sills 2;", 9}, {"door 0 1 1;sills 4;", 11}, {"Sills 2;", 0}, {"sillsx 2;", 0}, {"sill 2;", 0},
            {"sills 2x;", 7}, {"sills x;", 6}, {"sills -2;", 6}, {"sills\t2;", 5}, {"sills \u00ff2;", 6}, {"  ?", 2},
            {";", 0}, {"5;", 0}, {"sills 2;;", 8}, {"door 4 1 1;", 5}, {"sills 2;door 2 1 1;", 13},
            {"door 0 0 1;", 7}, {"door 0 10 1;", 7}, {"door 0 1 0;", 9}, {"door 0 1 10;", 9}, {"door 0 1;", 8},
            {"door 0 1 1 1;", 11}, {"door 0 1 1", 10}, {"rope 4 0 1 0;", 5}, {"rope 0 4 1 0;", 7},
            {"rope 3 3 1 0;", 7}, {"rope 0 0 1 0;", 7}, {"rope 0 1 0 0;", 9}, {"rope 0 1 10 0;", 9},
            {"rope 0 1 1 18;", 11}, {"rope 0 1 1;", 10}, {"rope 0 1 1 17 ", 14}, {"rider 4 1 0;", 6},
            {"rider 0 0 0;", 8}, {"rider 0 6 0;", 8}, {"rider 0 1 100;", 10}, {"rider 0 1 00;", 10},
            {"rider 0 1;", 9}, {"riders 0 1 1;", 0}, {"rope 0 1 1 0;".repeat(9), 104},
            {"rider 0 1 0;".repeat(5), 48}, {"rope 0 1 1 0;".repeat(8) + " rope", 105},
            {"door 0 1 1;door 9 1 1;sills 1;", 16}, {"sills 4;door", 12},
            {"sillsz 2;", 0}, {"sillsa 2;", 0}, {"xope 0 1 1 0;", 0}, {"sills 2?", 7}, {"sills 2 door 0 1 1;", 8},
            {"door 0 rope 1;", 7}, {"4 2;", 0}, {"sills{2;", 5}, {"sills`2;", 5}, {"sills /2;", 6}, {"sills :2;", 6},
        };
        for (Object[] f : faults) {
            DUE.is("'" + f[0] + "'", Due.read((String) f[0]), -10 - (Integer) f[1]);
        }
    }

    private static void aFaultChangesNothing() {
        SwingCity x = Due.city("sills 2;door 1 3 1;rope 0 1 2 3;rider 1 2 3;");
        x.saw(1, 7);
        x.waits(0, 4);
        x.keep(1);
        x.rate(0, 0);
        Due.type(x, "sills 8;door 1 9 9;rope 1 0 9 9;rider 7 1 1;rope 0 0 1 1;");
        DUE.is("fault", x.city(), -10 - 51);
        int[] counts = {2, 1, 1, 1, 1, 57};
        for (int what = 0; what < counts.length; what++) {
            DUE.is("behind a fault: count(" + what + ")", x.count(what), counts[what]);
        }
        DUE.is("behind a fault: TURN", x.sill(1, 0), 3);
        DUE.is("behind a fault: BEAT", x.rope(0, 2), 2);
        DUE.is("behind a fault: minute", x.rider(0, 1), 4);
        DUE.is("behind a fault: back(1)", x.back(1), 1);
        DUE.is("behind a fault: trace()", x.trace(), 1);
    }

    private static void readAnew() {
        SwingCity x = Due.city("sills 8;door 1 3 1;rope 0 1 2 3;rider 0 1 5;rider 0 1 5;");
        x.stop(0);
        x.push(0, 0);
        x.go(0, 0);
        x.go(1, 0);
        DUE.is("they met", x.meets(), 1);
        x.saw(1, 7);
        x.keep(0);
        x.keep(1);
        x.rate(0, 0);
        DUE.is("an empty text tells all anew", x.city(), 0);
        int[] counts = {4, 0, 0, 0, 0, 0};
        for (int what = 0; what < counts.length; what++) {
            DUE.is("anew: count(" + what + ")", x.count(what), counts[what]);
        }
        DUE.is("anew: TURN", x.sill(1, 0), 1);
        DUE.is("anew: back(0)", x.back(0), STATE);
        DUE.is("anew: back(1)", x.back(1), STATE);
        DUE.is("anew: meets()", x.meets(), 0);
        DUE.is("anew: undo()", x.undo(), STATE);
        DUE.is("anew: THE TRACE is not told by the text", x.trace(), 1);
        Due.type(x, "rope 0 1 2 3;rider 0 1 5;");
        DUE.is("told again", x.city(), 2);
        DUE.is("not stopped", x.rope(0, 4), 0);
        DUE.is("minute 0", x.rider(0, 1), 0);
    }

    private static void doors() {
        String city = "sills 4;door 0 9 1;door 1 3 2;door 2 2 9;";
        SwingCity x = Due.city(city);
        for (int t = 0; t < 1000; t++) {
            // An object is used for at most 512 calls.
            x = t % 100 == 0 ? Due.city(city) : x;
            DUE.is("open(0, " + t + ")", x.open(0, t), t % 9 == 0 ? 1 : 0);
            DUE.is("open(1, " + t + ")", x.open(1, t), t % 3 == 2 ? 0 : 1);
            DUE.is("open(2, " + t + ")", x.open(2, t), 1);
            DUE.is("open(3, " + t + ")", x.open(3, t), 1);
        }
        DUE.is("open(0, -1)", x.open(0, -1), BAD);
        DUE.is("open(0, 1000)", x.open(0, 1000), BAD);
        DUE.is("open(-1, 0)", x.open(-1, 0), BAD);
        DUE.is("open(4, 0)", x.open(4, 0), BAD);
    }

    public static void main(String[] args) {
        aNewObject();
        typing();
        whatIsTold();
        items();
        faults();
        aFaultChangesNothing();
        readAnew();
        doors();
        DUE.end();
    }
}
