/** The edges of rides: section 2 of the Terms, MEETS of section 3, promises 9 to 14. */
final class RideEdges {
    private static final int BAD = Sentences.BAD, STATE = Sentences.STATE;
    private static final int LEAST = Sentences.LEAST, MOST = Sentences.MOST;

    private final Sentences due;

    RideEdges(Sentences due) {
        this.due = due;
    }

    private void riderIs(String when, SwingCity x, int r, int... row) {
        for (int what = 0; what < row.length; what++) {
            due.is(when + ": rider(" + r + ", " + what + ")", x.rider(r, what), row[what]);
        }
    }

    private static SwingCity waited(SwingCity x, int r, int minute) {
        for (int now = x.rider(r, 1); now >= 0 && now < minute;) {
            now = x.waits(r, Math.min(99, minute - now));
        }
        return x;
    }

    // ---- Terms, section 2

    // Rope 0 is at 0 in 3, 7, 11 .., at 1 in 1, 5, 9 ..
    private void aRopeThatHangsHere() {
        due.by("Terms", "A RIDE by a ROPE that is not STOPPED and hangs at one's SILL");
        SwingCity x = Due.city("sills 3;rope 0 1 2 3;rider 0 1 9;rider 1 1 9;rider 2 1 9;");
        due.is("at A", x.go(0, 0), 5);
        due.is("at B", x.go(1, 0), 3);
        due.is("at neither", x.go(2, 0), STATE);
        x.stop(0);
        due.is("stopped, at B", x.go(0, 0), STATE);
        due.is("stopped, at A", x.go(1, 0), STATE);
        due.is("stopped, a route", x.route(1, 0, 0, 1, 0), -10);
    }

    private void thatOneToo() {
        due.by("Terms", "one waits for the first minute in which the rope is there (that one, too)");
        int[] ends = {5, 5, 5, 5, 9, 9, 9, 9, 13};
        for (int minute = 0; minute < ends.length; minute++) {
            SwingCity x = waited(Due.city("sills 2;rope 0 1 2 3;rider 0 1 9;"), 0, minute);
            due.is("goes from minute " + minute, x.go(0, 0), ends[minute]);
            due.is("route from minute " + minute, x.route(1, 0, minute, 1, 0), ends[minute]);
        }
    }

    // Door 1: 0, 9, 18; door 0: 0, 7, 14. The rope is at 0 in 3, 7, 11, at 1 in 5, 9.
    private void thenBackAndSoOn() {
        due.by("Terms", "is behind each BEAT more at the other SILL, then back, and so on:"
            + " lets go at the first of these at which the DOOR is open");
        SwingCity x = Due.city("sills 2;door 0 7 1;door 1 9 1;rope 0 1 2 3;rider 0 5 9;rider 0 1 9;rider 0 5 9;");
        due.is("back at his own sill", x.go(0, 0), 7);
        riderIs("back", x, 0, 0, 7, 5, 7, 0);
        due.is("taken where the door is open, let go at the other", x.go(0, 0), 9);
        riderIs("across", x, 0, 1, 9, 5, 5, 0);
        due.is("the weaker one falls first", x.go(1, 0), 1005);
        waited(x, 2, 24);
        due.is("taken in 27, let go in 35", x.go(2, 0), 35);
        riderIs("at the fourth", x, 2, 0, 35, 5, 7, 0);
    }

    // Both doors are open in 0, 9, 18 alone; the rope, of BEAT 1, is taken so many BEATS ahead of 9.
    private void withinGripBeats() {
        due.by("Terms", "if none is within GRIP BEATS, one FALLS then.");
        for (int grip = 1; grip <= 5; grip++) {
            for (int beats = 1; beats <= 6; beats++) {
                int taken = 9 - beats;
                SwingCity x = waited(Due.city("sills 2;door 0 9 1;door 1 9 1;rope 0 1 1 " + taken + ";rider 0 " + grip
                    + " 50;"), 0, taken);
                String ride = "GRIP " + grip + ", open behind " + beats;
                boolean falls = beats > grip;
                int end = falls ? taken + grip : 9;
                due.is(ride + ", route", x.route(grip, 0, taken, 1, 0), falls ? -10 : 9);
                due.is(ride, x.go(0, 0), falls ? 1000 + end : 9);
                riderIs(ride, x, 0, (end - taken) % 2, end, grip, 49, falls ? 1 : 0);
            }
        }
    }

    private void minutesOfTheirOwn() {
        due.by("Terms", "RIDERS are at their SILLS at minute 0, each with a minute of his own.");
        SwingCity x = Due.city("sills 2;rope 0 1 2 0;rider 1 1 9;rider 0 2 8;rider 0 3 7;");
        riderIs("at first", x, 0, 1, 0, 1, 9, 0);
        x.waits(2, 99);
        x.go(1, 0);
        riderIs("he did nothing", x, 0, 1, 0, 1, 9, 0);
        riderIs("he went", x, 1, 1, 2, 2, 6, 0);
        riderIs("he waited", x, 2, 0, 99, 3, 7, 0);
    }

    // BEAT 9: at 0 in 990, at 1 in 999. Doors of TURN 7 are open in 994, but not in 995 .. 1000.
    private void endsByMinute999() {
        due.by("Terms", "GOES: a RIDE (that ends by minute 999)");
        SwingCity x = waited(Due.city("sills 2;rope 0 1 9 0;rope 0 1 1 1;rope 0 1 1 0;rider 0 1 99;"), 0, 990);
        due.is("ends in 999", x.go(0, 0), 999);
        x.undo();
        x.waits(0, 8);
        due.is("is taken in 1008", x.go(0, 0), STATE);
        due.is("ends in 1000", x.go(0, 1), STATE);
        due.is("ends in 999, too", x.go(0, 2), 999);
        x.undo();
        x.waits(0, 1);
        due.is("is taken in 999, ends in 1000", x.go(0, 1), STATE);
        String closed = "sills 2;door 0 7 1;door 1 7 1;rope 0 1 1 0;rider 0 1 9;rider 0 2 9;";
        SwingCity y = waited(waited(Due.city(closed), 0, 998), 1, 998);
        due.is("falls in 999", y.go(0, 0), 1999);
        due.is("would fall in 1000", y.go(1, 0), STATE);
        riderIs("did not go", y, 1, 0, 998, 2, 9, 0);
    }

    // Sill 1 is open in 0, 9, 18, sill 0 always.
    private void sillAndMinuteOfTheEnd() {
        due.by("Terms", "his SILL and minute are those of its end");
        SwingCity x = Due.city("sills 2;door 1 9 1;rope 0 1 3 0;rider 0 1 50;rider 0 2 50;rider 1 1 50;rider 0 1 50;");
        due.is("he falls at the other sill", x.go(0, 0), 1003);
        riderIs("fell", x, 0, 1, 3, 1, 47, 1);
        due.is("he swings back to his own", x.go(1, 0), 6);
        riderIs("back", x, 1, 0, 6, 2, 47, 0);
        due.is("he comes across, from B", x.go(2, 0), 6);
        riderIs("across, from B", x, 2, 0, 6, 1, 47, 0);
        due.is("he comes across, from A", waited(x, 3, 1).go(3, 0), 9);
        riderIs("across, from A", x, 3, 1, 9, 1, 47, 0);
    }

    private void purseIsNoughtAtLeast() {
        due.by("Terms", "his PURSE is BEAT less (0 at least)");
        int[][] purses = {{9, 9, 0}, {9, 8, 0}, {9, 10, 1}, {9, 0, 0}, {9, 99, 90}, {1, 1, 0}, {1, 0, 0}, {1, 2, 1}};
        for (int[] p : purses) {
            SwingCity x = Due.city("sills 2;rope 0 1 " + p[0] + " 0;rider 0 1 " + p[1] + ";");
            due.is("goes", x.go(0, 0), p[0]);
            due.is("BEAT " + p[0] + " of " + p[1], x.rider(0, 3), p[2]);
            x.undo();
            due.is("undone", x.rider(0, 3), p[1]);
        }
    }

    private void whoFallsIsOut() {
        due.by("Terms", "who FALLS is OUT.");
        SwingCity x = Due.city("sills 2;door 1 9 1;rope 0 1 2 0;rider 0 1 9;rider 0 2 9;");
        due.is("he falls", x.go(0, 0), 1002);
        due.is("he is OUT", x.rider(0, 4), 1);
        due.is("he goes no more", x.go(0, 0), STATE);
        due.is("he waits no more", x.waits(0, 1), STATE);
        due.is("the other swings back", x.go(1, 0), 4);
        due.is("and is not OUT", x.rider(1, 4), 0);
        due.is("who is not OUT", x.keep(0), 1);
    }

    private void hisMinuteIsLater() {
        due.by("Terms", "WAITS: his minute is later.");
        SwingCity x = Due.city("rider 3 2 7;");
        due.is("waits(0, 1)", x.waits(0, 1), 1);
        riderIs("one", x, 0, 3, 1, 2, 7, 0);
        due.is("waits(0, 99)", x.waits(0, 99), 100);
        riderIs("100", x, 0, 3, 100, 2, 7, 0);
    }

    private void pushedInAMinute() {
        due.by("Terms", "A ROPE is STOPPED; PUSHED in a minute: START is this minute, it is STOPPED no more.");
        int[][] pushes = {{0, 2}, {1, 3}, {999, 5}, {998, 4}, {17, 3}, {18, 4}};
        for (int[] p : pushes) {
            SwingCity x = Due.city("sills 2;rope 0 1 2 3;");
            x.stop(0);
            due.is("stopped", x.rope(0, 4), 1);
            due.is("stopped, START stays", x.rope(0, 3), 3);
            x.push(0, p[0]);
            due.is("START", x.rope(0, 3), p[0]);
            due.is("stopped no more", x.rope(0, 4), 0);
            due.is("BEAT stays", x.rope(0, 2), 2);
            due.is("it swings ahead of minute " + p[0], x.route(1, 0, 0, 1, 0), p[1]);
        }
    }

    private void theLatestIsUndone() {
        due.by("Terms", "UNDONE: the latest go(), waits(), stop(), push() that was not refused and not undone yet");
        SwingCity x = Due.city("sills 4;rope 0 1 1 0;rope 3 2 2 3;rider 0 1 9;rider 3 1 9;");
        x.waits(1, 4);
        x.stop(1);
        due.is("refused: STATE", x.go(1, 1), STATE);
        due.is("refused: STATE", x.stop(1), STATE);
        due.is("refused: BAD", x.waits(1, 100), BAD);
        due.is("refused: BAD", x.push(1, 1000), BAD);
        due.is("two are known", x.count(4), 2);
        x.push(1, 8);
        due.is("push() is undone", x.undo(), 2);
        due.is("it is stopped again", x.rope(1, 4), 1);
        due.is("its START", x.rope(1, 3), 3);
        due.is("stop() is undone", x.undo(), 1);
        due.is("it swings", x.rope(1, 4), 0);
        due.is("goes", x.go(1, 1), 9);
        due.is("pushed", x.push(1, 8), 3);
        due.is("push() is undone", x.undo(), 2);
        due.is("its START again", x.rope(1, 3), 3);
        due.is("go() is undone", x.undo(), 1);
        riderIs("he has not gone", x, 1, 3, 4, 1, 9, 0);
        due.is("not stop() again, but waits()", x.undo(), 0);
        riderIs("he has not waited", x, 1, 3, 0, 1, 9, 0);
        riderIs("the other", x, 0, 0, 0, 1, 9, 0);
        due.is("no more", x.undo(), STATE);
    }

    private void tenAreKnown() {
        due.by("Terms", "(10 are known, older ones are lost)");
        for (int deeds = 9; deeds <= 13; deeds++) {
            SwingCity x = Due.city("sills 2;rope 0 1 2 3;rider 0 1 9;");
            for (int i = 1; i <= deeds; i++) {
                x.waits(0, i);
            }
            int known = Math.min(10, deeds);
            due.is(deeds + " deeds", x.count(4), known);
            for (int more = known - 1; more >= 0; more--) {
                due.is(deeds + " deeds, undo()", x.undo(), more);
            }
            due.is(deeds + " deeds, older ones", x.undo(), STATE);
            int lost = deeds - known;
            due.is(deeds + " deeds, what is lost stays", x.rider(0, 1), lost * (lost + 1) / 2);
        }
        SwingCity y = Due.city("sills 2;rope 0 1 1 0;rope 0 1 2 3;rider 0 1 9;");
        y.stop(1);
        for (int i = 0; i < 3; i++) {
            y.go(0, 0);
            y.push(0, i);
            y.waits(0, 1);
        }
        due.is("ten of all sorts", y.count(4), 10);
        y.push(0, 7);
        for (int more = 9; more >= 0; more--) {
            due.is("undo()", y.undo(), more);
        }
        due.is("the eleventh is lost", y.undo(), STATE);
        due.is("it stays stopped", y.rope(1, 4), 1);
        riderIs("as at first", y, 0, 0, 0, 1, 9, 0);
        due.is("START as at first", y.rope(0, 3), 0);
    }

    // ---- Terms, section 3: MEETS

    private void unlikeRidersOnOneRope() {
        due.by("Terms", "MEETS: pairs of RIDES of unlike RIDERS on one ROPE");
        String ropes = "sills 2;rope 0 1 2 0;rope 0 1 2 0;";
        for (int n = 0; n <= 4; n++) {
            SwingCity x = Due.city(ropes + "rider 0 1 9;".repeat(n));
            for (int r = 0; r < n; r++) {
                x.go(r, 0);
            }
            due.is("riders on one rope: " + n, x.meets(), n * (n - 1) / 2);
        }
        SwingCity y = Due.city(ropes + "rider 0 1 9;rider 0 1 9;");
        y.go(0, 0);
        y.go(1, 1);
        due.is("on two ropes", y.meets(), 0);
        y.go(0, 1);
        y.go(0, 1);
        due.is("one rider alone", y.meets(), 0);
    }

    // The rope is at 0 in even minutes, at 1 in odd ones.
    private void tenRidesAreKnown() {
        due.by("Terms", "known ones (of the latest 10 of go(); older ones are lost, also where later ones are UNDONE;"
            + " one that is UNDONE is no more)");
        SwingCity x = Due.city("sills 2;rope 0 1 1 0;rider 0 1 9;rider 0 1 9;rider 0 1 9;");
        x.go(0, 0);
        x.go(1, 0);
        x.go(2, 0);
        for (int i = 4; i <= 10; i++) {
            x.go(0, 0);
            due.is("rides: " + i, x.meets(), 3);
        }
        x.go(0, 0);
        due.is("eleven: the first is lost", x.meets(), 1);
        due.is("undone", x.undo(), 9);
        due.is("it is lost, also where a later one is undone", x.meets(), 1);
        for (int more = 8; more >= 2; more--) {
            due.is("undone", x.undo(), more);
            due.is("the second and the third are known", x.meets(), 1);
        }
        due.is("the third is undone", x.undo(), 1);
        due.is("it is no more", x.meets(), 0);
        SwingCity y = Due.city("sills 2;rope 0 1 1 0;rider 0 1 9;rider 0 1 9;");
        y.go(0, 0);
        y.go(1, 0);
        for (int i = 0; i < 12; i++) {
            y.waits(0, 1);
            y.stop(0);
            y.push(0, 0);
        }
        due.is("waits(), stop(), push() are no rides", y.meets(), 1);
        for (int more = 9; more >= 0; more--) {
            due.is("undone", y.undo(), more);
        }
        due.is("nor are they when undone", y.meets(), 1);
    }

    // The rope is at 0 in 0, 4, 8, at 1 in 2, 6, 10; the doors are open in 0, 7, 14 alone.
    private void takenAheadOfTheEnd() {
        due.by("Terms", "of which one was taken ahead of the other's end and ended behind the other's taking"
            + " (both told by minutes).");
        SwingCity x = Due.city("sills 2;rope 0 1 2 0;rider 0 1 9;rider 1 1 9;rider 1 1 9;rider 0 1 9;");
        x.go(0, 0);
        x.go(1, 0);
        due.is("0 to 2, 2 to 4", x.meets(), 0);
        x.go(2, 0);
        due.is("2 to 4, 2 to 4", x.meets(), 1);
        x.go(3, 0);
        due.is("0 to 2, 0 to 2", x.meets(), 2);
        String closed = "sills 2;door 0 7 1;door 1 7 1;rope 0 1 2 0;rider 0 3 9;rider 1 1 9;rider 0 2 9;rider 1 1 9;";
        SwingCity y = waited(waited(Due.city(closed), 2, 3), 3, 5);
        due.is("0 to 6", y.go(0, 0), 1006);
        due.is("2 to 4", y.go(1, 0), 1004);
        due.is("within the other", y.meets(), 1);
        due.is("4 to 8", y.go(2, 0), 1008);
        due.is("over the end of the one, at the end of the other", y.meets(), 2);
        due.is("6 to 8", y.go(3, 0), 1008);
        due.is("at the end of the first, within the third", y.meets(), 3);
        SwingCity z = waited(waited(Due.city(closed), 2, 3), 3, 5);
        z.go(3, 0);
        z.go(2, 0);
        z.go(1, 0);
        z.go(0, 0);
        due.is("the same, the later ones first", z.meets(), 3);
    }

    // ---- Promises 9 to 14

    private void goingEnds() {
        due.by("Promise 9", "GOES: the minute of its end (1000 more: he FALLS).");
        String city = "sills 2;door 1 9 1;rope 0 1 2 0;rider 0 1 9;rider 0 2 9;";
        SwingCity x = Due.city(city);
        due.is("falls", x.go(0, 0), 1002);
        due.is("swings back", x.go(1, 0), 4);
        SwingCity y = Due.city("sills 2;rope 0 1 1 0;rider 0 1 9;");
        due.is("the soonest end", y.go(0, 0), 1);
    }

    private void goingBad() {
        due.by("Promise 9", "BAD");
        SwingCity x = Due.city("rope 0 1 2 0;rope 0 1 2 0;rider 0 1 9;rider 0 1 9;rider 0 1 9;");
        int[][] bad = {{-1, 0}, {3, 0}, {LEAST, 0}, {MOST, 0}, {0, -1}, {0, 2}, {0, LEAST}, {0, MOST}, {3, 2}};
        for (int[] b : bad) {
            due.is("go(" + b[0] + ", " + b[1] + ")", x.go(b[0], b[1]), BAD);
        }
        due.is("nothing to undo", x.count(4), 0);
    }

    private void goingOut() {
        due.by("Promise 9", "STATE: he is OUT");
        SwingCity x = Due.city("sills 2;door 1 9 1;rope 0 1 2 0;rider 0 1 9;");
        x.go(0, 0);
        due.is("OUT", x.go(0, 0), STATE);
        riderIs("as he fell", x, 0, 1, 2, 1, 7, 1);
        due.is("one to undo", x.undo(), 0);
        due.is("he goes again", x.go(0, 0), 1002);
    }

    private void goingByAStoppedRope() {
        due.by("Promise 9", "the ROPE is STOPPED");
        SwingCity x = Due.city("sills 2;rope 0 1 2 0;rope 0 1 3 0;rider 0 1 9;");
        x.stop(0);
        due.is("stopped", x.go(0, 0), STATE);
        riderIs("still here", x, 0, 0, 0, 1, 9, 0);
        due.is("the other goes", x.go(0, 1), 3);
    }

    private void goingFromElsewhere() {
        due.by("Promise 9", "or not at his SILL");
        SwingCity x = Due.city("sills 3;rope 0 1 2 0;rope 2 1 2 0;rope 1 2 2 0;rider 0 1 9;");
        due.is("not here", x.go(0, 1), STATE);
        due.is("not here, either", x.go(0, 2), STATE);
        riderIs("still here", x, 0, 0, 0, 1, 9, 0);
        x.go(0, 0);
        due.is("now it is", x.go(0, 1), 4);
    }

    private void goingTooLate() {
        due.by("Promise 9", "or it would not end by 999.");
        SwingCity x = waited(Due.city("sills 2;rope 0 1 1 0;rider 0 1 9;"), 0, 998);
        due.is("in 999", x.go(0, 0), 999);
        due.is("in 1000", x.go(0, 0), STATE);
        riderIs("still here", x, 0, 1, 999, 1, 8, 0);
        SwingCity y = waited(Due.city("sills 2;door 1 2 1;rope 0 1 9 0;rider 0 2 9;rider 0 1 9;"), 0, 990);
        due.is("closed in 999, back in 1008", y.go(0, 0), STATE);
        waited(y, 1, 990);
        due.is("closed in 999, he falls", y.go(1, 0), 1999);
    }

    private void waitingMinutes() {
        due.by("Promise 10", "WAITS n (1 .. 99) minutes: his minute then.");
        SwingCity x = Due.city("rider 0 1 9;rider 0 1 9;");
        due.is("waits(1, 1)", x.waits(1, 1), 1);
        due.is("waits(1, 99)", x.waits(1, 99), 100);
        due.is("the other", x.waits(0, 99), 99);
        due.is("waits(1, 0)", x.waits(1, 0), BAD);
        due.is("waits(1, 100)", x.waits(1, 100), BAD);
        due.is("his minute", x.rider(1, 1), 100);
    }

    private void waitingBad() {
        due.by("Promise 10", "BAD");
        SwingCity x = Due.city("rider 0 1 9;rider 0 1 9;");
        int[][] bad = {{-1, 1}, {2, 1}, {LEAST, 1}, {MOST, 1}, {0, 0}, {0, -1}, {0, 100}, {0, LEAST}, {0, MOST}, {2, 0}};
        for (int[] b : bad) {
            due.is("waits(" + b[0] + ", " + b[1] + ")", x.waits(b[0], b[1]), BAD);
        }
        due.is("nothing to undo", x.count(4), 0);
    }

    private void waitingOut() {
        due.by("Promise 10", "STATE: he is OUT");
        SwingCity x = Due.city("sills 2;door 1 9 1;rope 0 1 2 0;rider 0 1 9;rider 0 1 9;");
        x.go(0, 0);
        due.is("OUT", x.waits(0, 1), STATE);
        riderIs("as he fell", x, 0, 1, 2, 1, 7, 1);
        due.is("the other", x.waits(1, 1), 1);
    }

    private void waitingTooLong() {
        due.by("Promise 10", "or beyond 999.");
        SwingCity x = waited(Due.city("rider 0 1 9;"), 0, 900);
        due.is("999", x.waits(0, 99), 999);
        due.is("1000", x.waits(0, 1), STATE);
        due.is("1098", x.waits(0, 99), STATE);
        due.is("his minute", x.rider(0, 1), 999);
        x.undo();
        x.waits(0, 1);
        due.is("901 and 99", x.waits(0, 99), STATE);
        due.is("901 and 98", x.waits(0, 98), 999);
    }

    private void stopping() {
        due.by("Promise 11", "STOPPED: 1.");
        SwingCity x = Due.city("rope 0 1 1 0;".repeat(8));
        for (int k = 7; k >= 0; k--) {
            due.is("stop(" + k + ")", x.stop(k), 1);
            due.is("the one below", x.rope(k - 1, 4), k == 0 ? BAD : 0);
        }
        due.is("all may be undone", x.count(4), 8);
    }

    private void stoppingBad() {
        due.by("Promise 11", "BAD");
        SwingCity x = Due.city("rope 0 1 1 0;rope 0 1 1 0;");
        int[] bad = {-1, 2, LEAST, MOST};
        for (int k : bad) {
            due.is("stop(" + k + ")", x.stop(k), BAD);
        }
        due.is("nothing to undo", x.count(4), 0);
        due.is("without ropes", new SwingCity().stop(0), BAD);
    }

    private void stoppingTwice() {
        due.by("Promise 11", "STATE: it is.");
        SwingCity x = Due.city("rope 0 1 1 0;rope 0 1 1 0;");
        due.is("stop(1)", x.stop(1), 1);
        due.is("again", x.stop(1), STATE);
        due.is("still", x.rope(1, 4), 1);
        due.is("one to undo", x.count(4), 1);
        x.push(1, 0);
        due.is("pushed, it may be stopped", x.stop(1), 1);
    }

    private void pushing() {
        due.by("Promise 12", "PUSHED in a minute (0 .. 999): its START till then.");
        SwingCity x = Due.city("rope 0 1 1 17;");
        due.is("push(0, 0)", x.push(0, 0), 17);
        due.is("push(0, 999)", x.push(0, 999), 0);
        due.is("push(0, 999) again", x.push(0, 999), 999);
        due.is("START", x.rope(0, 3), 999);
        x.stop(0);
        due.is("a stopped one", x.push(0, 18), 999);
        due.is("all may be undone", x.count(4), 5);
        due.is("push(0, -1)", x.push(0, -1), BAD);
        due.is("push(0, 1000)", x.push(0, 1000), BAD);
    }

    private void pushingBad() {
        due.by("Promise 12", "BAD");
        SwingCity x = Due.city("rope 0 1 1 5;rope 0 1 1 5;");
        x.stop(0);
        int[][] bad = {{-1, 1}, {2, 1}, {LEAST, 1}, {MOST, 1}, {0, -1}, {0, 1000}, {0, LEAST}, {0, MOST}, {2, 1000}};
        for (int[] b : bad) {
            due.is("push(" + b[0] + ", " + b[1] + ")", x.push(b[0], b[1]), BAD);
        }
        due.is("START", x.rope(0, 3), 5);
        due.is("still stopped", x.rope(0, 4), 1);
        due.is("one to undo", x.count(4), 1);
    }

    private void undoing() {
        due.by("Promise 13", "UNDONE: how many more may be.");
        SwingCity x = Due.city("rider 0 1 9;");
        for (int i = 0; i < 11; i++) {
            x.waits(0, 1);
        }
        for (int more = 9; more >= 0; more--) {
            due.is("undo()", x.undo(), more);
            due.is("count(4)", x.count(4), more);
        }
        x.waits(0, 1);
        due.is("one alone", x.undo(), 0);
    }

    private void undoingNothing() {
        due.by("Promise 13", "STATE: none.");
        SwingCity x = Due.city("rope 0 1 1 0;rider 0 1 9;");
        due.is("none yet", x.undo(), STATE);
        x.waits(0, 7);
        x.undo();
        due.is("none left", x.undo(), STATE);
        due.is("none left, again", x.undo(), STATE);
        due.is("his minute", x.rider(0, 1), 0);
        due.is("count(4)", x.count(4), 0);
        x.waits(0, 3);
        due.is("one may be then", x.count(4), 1);
    }

    private void meeting() {
        due.by("Promise 14", "MEETS.");
        due.is("nobody", new SwingCity().meets(), 0);
        SwingCity x = Due.city("sills 2;rope 0 1 1 0;" + "rider 0 1 9;".repeat(4));
        due.is("no rides", x.meets(), 0);
        for (int i = 0; i < 10; i++) {
            x.go(i % 4, 0);
        }
        // Ten rides: four in 0 to 1, four in 1 to 2, two in 2 to 3.
        due.is("ten rides", x.meets(), 6 + 6 + 1);
        x.go(2, 0);
        due.is("eleven: three, four, three", x.meets(), 3 + 6 + 3);
        x.go(3, 0);
        due.is("twelve: two, four, four", x.meets(), 1 + 6 + 6);
    }

    void run() {
        aRopeThatHangsHere();
        thatOneToo();
        thenBackAndSoOn();
        withinGripBeats();
        minutesOfTheirOwn();
        endsByMinute999();
        sillAndMinuteOfTheEnd();
        purseIsNoughtAtLeast();
        whoFallsIsOut();
        hisMinuteIsLater();
        pushedInAMinute();
        theLatestIsUndone();
        tenAreKnown();
        unlikeRidersOnOneRope();
        tenRidesAreKnown();
        takenAheadOfTheEnd();
        runPromises();
    }

    private void runPromises() {
        goingEnds();
        goingBad();
        goingOut();
        goingByAStoppedRope();
        goingFromElsewhere();
        goingTooLate();
        waitingMinutes();
        waitingBad();
        waitingOut();
        waitingTooLong();
        stopping();
        stoppingBad();
        stoppingTwice();
        pushing();
        pushingBad();
        undoing();
        undoingNothing();
        meeting();
    }
}
