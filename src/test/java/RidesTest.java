/** Promises 9 to 14: go, waits, stop, push, undo, meets. */
public final class RidesTest {
    private static final Due DUE = new Due("RidesTest");
    private static final int BAD = -1, STATE = -2;

    private static void riderIs(String when, SwingCity x, int r, int... row) {
        for (int what = 0; what < row.length; what++) {
            DUE.is(when + ": rider(" + r + ", " + what + ")", x.rider(r, what), row[what]);
        }
    }

    private static void waitFor(SwingCity x, int r, int minute) {
        int now = x.rider(r, 1);
        for (int i = 0; i < 20 && now < minute; i++) {
            now = x.waits(r, Math.min(99, minute - now));
        }
    }

    // The rope is at 0 in 1, 5, 9 .. (never when door 0 is open), at 1 in 3, 7, 11, 15 .. (door 1: 3, 15 ..).
    private static void going() {
        SwingCity x = Due.city("sills 3;door 0 2 1;door 1 3 1;rope 0 1 2 1;rope 1 2 1 0;"
            + "rider 0 1 10;rider 0 5 1;rider 1 2 50;");
        DUE.is("lets go at an open door", x.go(0, 0), 3);
        riderIs("let go", x, 0, 1, 3, 1, 8, 0);
        DUE.is("takes it in this minute, falls", x.go(0, 0), 1005);
        riderIs("fell", x, 0, 0, 5, 1, 6, 1);
        DUE.is("OUT goes", x.go(0, 0), STATE);
        DUE.is("OUT waits", x.waits(0, 1), STATE);
        DUE.is("OUT, but no such rope", x.go(0, 2), BAD);
        DUE.is("OUT, but too long", x.waits(0, 100), BAD);
        DUE.is("undone", x.undo(), 1);
        riderIs("undone", x, 0, 1, 3, 1, 8, 0);
        DUE.is("waits", x.waits(0, 1), 4);
        DUE.is("the rope has gone", x.go(0, 0), 1009);
        DUE.is("purse is 0 at least", x.go(1, 0), 3);
        riderIs("poor", x, 1, 1, 3, 5, 0, 0);
        DUE.is("the poor go, too; five beats", x.go(1, 0), 1013);
        riderIs("five beats", x, 1, 0, 13, 5, 0, 1);
        DUE.is("two beats", x.go(2, 0), 1007);
        riderIs("two beats", x, 2, 1, 7, 2, 48, 1);
    }

    private static void swingingBack() {
        String city = "sills 2;door 1 9 1;rope 0 1 3 2;rider 0 2 9;rider 0 1 9;";
        SwingCity x = Due.city(city);
        DUE.is("swings back", x.go(0, 0), 8);
        riderIs("swung back", x, 0, 0, 8, 2, 6, 0);
        DUE.is("too weak", x.go(1, 0), 1005);
        riderIs("too weak", x, 1, 1, 5, 1, 6, 1);
        SwingCity y = Due.city("sills 2;rope 0 1 9 17;rider 1 1 50;");
        DUE.is("a rope swings ahead of its START", y.go(0, 0), 17);
        riderIs("ahead of START", y, 0, 0, 17, 1, 41, 0);
    }

    private static void refusedRides() {
        SwingCity x = Due.city("sills 3;rope 0 1 2 0;rope 1 2 2 0;rider 0 1 9;");
        DUE.is("go(-1, 0)", x.go(-1, 0), BAD);
        DUE.is("go(1, 0)", x.go(1, 0), BAD);
        DUE.is("go(0, -1)", x.go(0, -1), BAD);
        DUE.is("go(0, 2)", x.go(0, 2), BAD);
        DUE.is("not at his sill", x.go(0, 1), STATE);
        x.stop(0);
        DUE.is("stopped", x.go(0, 0), STATE);
        DUE.is("refused ones can't be undone", x.count(4), 1);
        riderIs("refused", x, 0, 0, 0, 1, 9, 0);
        DUE.is("and no rides", x.meets(), 0);
    }

    private static void theLastMinute() {
        SwingCity x = Due.city("sills 2;door 1 2 1;rope 0 1 9 0;rider 0 1 99;rider 0 2 99;rider 0 1 99;");
        for (int r = 0; r < 3; r++) {
            waitFor(x, r, 990);
        }
        x.waits(2, 1);
        DUE.is("falls in 999", x.go(0, 0), 1999);
        DUE.is("would swing back beyond 999", x.go(1, 0), STATE);
        riderIs("beyond 999", x, 1, 0, 990, 2, 99, 0);
        DUE.is("would take it beyond 999", x.go(2, 0), STATE);
        SwingCity y = Due.city("sills 2;rope 0 1 9 0;rider 0 1 99;");
        waitFor(y, 0, 990);
        DUE.is("lets go in 999", y.go(0, 0), 999);
        DUE.is("no minute is left", y.waits(0, 1), STATE);
        y.undo();
        DUE.is("waits till 999", y.waits(0, 9), 999);
        DUE.is("waits beyond", y.waits(0, 1), STATE);
        DUE.is("goes beyond", y.go(0, 0), STATE);
    }

    private static void waiting() {
        SwingCity x = Due.city("rider 3 2 7;");
        DUE.is("waits(0, 0)", x.waits(0, 0), BAD);
        DUE.is("waits(0, -1)", x.waits(0, -1), BAD);
        DUE.is("waits(0, 100)", x.waits(0, 100), BAD);
        DUE.is("waits(0, most)", x.waits(0, Integer.MAX_VALUE), BAD);
        DUE.is("waits(1, 1)", x.waits(1, 1), BAD);
        DUE.is("waits(-1, 1)", x.waits(-1, 1), BAD);
        DUE.is("waits(0, 1)", x.waits(0, 1), 1);
        DUE.is("waits(0, 99)", x.waits(0, 99), 100);
        riderIs("waited", x, 0, 3, 100, 2, 7, 0);
    }

    private static void ropeIs(String when, SwingCity x, int start, int stopped) {
        int[] row = {0, 1, 2, start, stopped};
        for (int what = 0; what < row.length; what++) {
            DUE.is(when + ": rope(0, " + what + ")", x.rope(0, what), row[what]);
        }
    }

    private static void stoppingAndPushing() {
        SwingCity x = Due.city("rope 0 1 2 3;rider 0 1 9;");
        DUE.is("stop(-1)", x.stop(-1), BAD);
        DUE.is("stop(1)", x.stop(1), BAD);
        DUE.is("stop(0)", x.stop(0), 1);
        ropeIs("stopped", x, 3, 1);
        DUE.is("stop(0) again", x.stop(0), STATE);
        DUE.is("push(0, -1)", x.push(0, -1), BAD);
        DUE.is("push(0, 1000)", x.push(0, 1000), BAD);
        DUE.is("push(1, 0)", x.push(1, 0), BAD);
        DUE.is("push(-1, 0)", x.push(-1, 0), BAD);
        ropeIs("not pushed", x, 3, 1);
        DUE.is("push(0, 999)", x.push(0, 999), 3);
        ropeIs("pushed", x, 999, 0);
        DUE.is("at 0 in 3, 7 ..", x.go(0, 0), 5);
        DUE.is("push(0, 0)", x.push(0, 0), 999);
        ropeIs("pushed again", x, 0, 0);
        DUE.is("how many may be undone", x.count(4), 4);
        DUE.is("undo() of push", x.undo(), 3);
        ropeIs("as ahead of it", x, 999, 0);
        DUE.is("undo() of go", x.undo(), 2);
        DUE.is("undo() of push of a stopped one", x.undo(), 1);
        ropeIs("stopped again", x, 3, 1);
        DUE.is("undo() of stop", x.undo(), 0);
        ropeIs("as told", x, 3, 0);
        DUE.is("undo() of nothing", x.undo(), STATE);
    }

    private static void tenMayBeUndone() {
        SwingCity x = Due.city("rider 0 1 9;rider 1 1 9;");
        for (int i = 1; i <= 12; i++) {
            x.waits(i % 2, i);
            DUE.is("may be undone", x.count(4), Math.min(10, i));
        }
        for (int i = 9; i >= 0; i--) {
            DUE.is("undo()", x.undo(), i);
        }
        DUE.is("older ones are lost", x.undo(), STATE);
        DUE.is("the first wait", x.rider(1, 1), 1);
        DUE.is("the second wait", x.rider(0, 1), 2);
    }

    // At 0 in 0, 4, 8; at 1 in 2, 6, 10: both ropes.
    private static void meeting() {
        SwingCity x = Due.city("sills 2;rope 0 1 2 0;rope 0 1 2 0;rider 0 1 9;rider 0 1 9;rider 1 1 9;rider 1 1 9;");
        x.go(0, 0);
        DUE.is("alone", x.meets(), 0);
        x.go(1, 0);
        DUE.is("two", x.meets(), 1);
        DUE.is("from the other sill", x.go(2, 0), 4);
        DUE.is("taken when the others end", x.meets(), 1);
        DUE.is("by the other rope", x.go(3, 1), 4);
        DUE.is("another rope", x.meets(), 1);
        x.go(2, 0);
        x.go(3, 0);
        DUE.is("one pair more", x.meets(), 2);
        x.undo();
        DUE.is("undone ones are no more", x.meets(), 1);
        x.waits(3, 1);
        x.go(3, 0);
        DUE.is("waited on the sill: 8 to 10", x.meets(), 1);
        SwingCity z = Due.city("sills 2;rope 0 1 2 0;rider 1 1 9;rider 0 1 9;rider 1 1 9;");
        DUE.is("the later ride, told first", z.go(0, 0), 4);
        DUE.is("the sooner ride, told then", z.go(1, 0), 2);
        DUE.is("one ends when the other is taken", z.meets(), 0);
        z.go(2, 0);
        DUE.is("the first and the third", z.meets(), 1);
        SwingCity y = Due.city("sills 2;rope 0 1 2 0;rider 0 1 9;rider 0 1 9;rider 0 1 9;rider 0 1 9;");
        for (int r = 0; r < 4; r++) {
            y.go(r, 0);
        }
        DUE.is("four on one rope are six pairs", y.meets(), 6);
    }

    private static void fallersMeet() {
        SwingCity x = Due.city("sills 2;door 0 9 1;door 1 9 1;rope 0 1 1 0;rider 0 5 9;rider 1 1 9;rider 1 1 9;");
        x.waits(1, 3);
        x.waits(2, 5);
        DUE.is("0 to 5", x.go(0, 0), 1005);
        DUE.is("3 to 4", x.go(1, 0), 1004);
        DUE.is("within it", x.meets(), 1);
        DUE.is("5 to 6", x.go(2, 0), 1006);
        DUE.is("behind it", x.meets(), 1);
    }

    private static void tenRidesAreKnown() {
        SwingCity x = Due.city("sills 2;rope 0 1 1 0;rider 0 1 9;rider 0 1 9;");
        x.go(0, 0);
        x.go(1, 0);
        for (int i = 0; i < 8; i++) {
            x.go(0, 0);
        }
        DUE.is("ten rides are known", x.meets(), 1);
        x.go(0, 0);
        DUE.is("the first is lost", x.meets(), 0);
        for (int i = 9; i >= 0; i--) {
            DUE.is("undo()", x.undo(), i);
            DUE.is("it stays lost", x.meets(), 0);
        }
        DUE.is("rider 1 is back", x.rider(1, 1), 0);
        DUE.is("rider 0 is not", x.rider(0, 1), 1);
        // Waits push deeds out, not rides.
        SwingCity y = Due.city("sills 2;rope 0 1 1 0;rider 0 1 9;rider 0 1 9;");
        y.go(0, 0);
        y.go(1, 0);
        for (int i = 0; i < 10; i++) {
            y.waits(0, 1);
        }
        for (int i = 0; i < 10; i++) {
            y.undo();
        }
        DUE.is("none may be undone", y.undo(), STATE);
        DUE.is("rides are known longer", y.meets(), 1);
    }

    public static void main(String[] args) {
        going();
        swingingBack();
        refusedRides();
        theLastMinute();
        waiting();
        stoppingAndPushing();
        tenMayBeUndone();
        meeting();
        fallersMeet();
        tenRidesAreKnown();
        DUE.end();
    }
}
