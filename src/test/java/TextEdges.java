/** The edges of a text and of what it tells: section 1 of the Terms, promises 1 to 8 and 25. */
final class TextEdges {
    private static final int BAD = Sentences.BAD, STATE = Sentences.STATE, FULL = Sentences.FULL;
    private static final int LEAST = Sentences.LEAST, MOST = Sentences.MOST;
    private static final long BLANKS = 0x2020202020202020L;
    private static final String DOORS_297 = "door 0 1 1;".repeat(27);

    private final Sentences due;

    TextEdges(Sentences due) {
        this.due = due;
    }

    /** What city() answers to a text that is told whole; a fault is told by its place. */
    private void items(String text, int items) {
        due.is("'" + text + "'", Due.read(text), items);
    }

    private void fault(String text, int place) {
        items(text, -10 - place);
    }

    private static SwingCity withBlanks(int n) {
        SwingCity x = new SwingCity();
        for (int left = n; left > 0; left -= 8) {
            x.type(BLANKS, Math.min(8, left));
        }
        return x;
    }

    // ---- Terms, section 1: sills, doors, ropes, riders

    private void callsOfAnObject() {
        due.by("What it is", "An object is used for at most 512 calls after it has been made");
        SwingCity x = new SwingCity();
        for (int call = 1; call <= 510; call++) {
            due.is("call " + call, x.type(59, 9), BAD);
        }
        due.is("call 511", x.type(59, 1), 1);
        due.is("call 512", x.count(5), 1);
    }

    private void sillsAreTwoAtLeast() {
        due.by("What it is", "1 SILLS 0 .. n - 1 (n 2 ..");
        fault("sills 0;", 6);
        fault("sills 1;", 6);
        items("sills 2;", 1);
        for (int n = 2; n <= 8; n++) {
            SwingCity x = Due.city("sills " + n + ";");
            due.is("n", x.count(0), n);
            due.is("sill -1 of " + n, x.sill(-1, 0), BAD);
            due.is("sill 0 of " + n, x.sill(0, 0), 1);
            due.is("the last of " + n, x.sill(n - 1, 0), 1);
            due.is("sill n of " + n, x.sill(n, 0), BAD);
        }
    }

    private void sillsAreEightAtMost() {
        due.by("Terms", "8; 4 at first)");
        items("sills 8;", 1);
        fault("sills 9;", 6);
        fault("sills 10;", 6);
        SwingCity x = new SwingCity();
        due.is("at first", x.count(0), 4);
        due.is("at first, the last", x.sill(3, 0), 1);
        due.is("at first, one more", x.sill(4, 0), BAD);
        items("door 3 1 1;", 1);
        fault("door 4 1 1;", 5);
        due.is("not told", Due.city("door 0 2 1;").count(0), 4);
    }

    private void whatIsLeftOverByTurn() {
        due.by("Terms", "open in minutes t of which what is left over by its TURN");
        for (int turn = 1; turn <= 9; turn++) {
            SwingCity x = Due.city("door 2 " + turn + " 1;");
            for (int t = 0; t < 999; t += t < 30 ? 1 : 31) {
                int left = t;
                while (left >= turn) {
                    left -= turn;
                }
                due.is("TURN " + turn + ", minute " + t, x.open(2, t), left == 0 ? 1 : 0);
            }
            due.is("TURN " + turn + ", minute 999", x.open(2, 999), 999 % turn == 0 ? 1 : 0);
        }
    }

    private void turnIsOneToNine() {
        due.by("Terms", "its TURN (1 .. 9; 1 at first)");
        due.is("at first", new SwingCity().sill(0, 0), 1);
        due.is("of a door that is not told", Due.city("door 0 5 5;").sill(1, 0), 1);
        fault("door 0 0 1;", 7);
        items("door 0 1 1;", 1);
        items("door 0 9 1;", 1);
        fault("door 0 10 1;", 7);
        due.is("TURN 9", Due.city("door 0 9 1;").sill(0, 0), 9);
    }

    private void openIsOneToNine() {
        due.by("Terms", "is less than OPEN (1 .. 9; 1)");
        due.is("at first", new SwingCity().sill(0, 1), 1);
        due.is("of a door that is not told", Due.city("door 0 5 5;").sill(1, 1), 1);
        fault("door 0 1 0;", 9);
        items("door 0 1 1;", 1);
        items("door 0 1 9;", 1);
        fault("door 0 1 10;", 9);
        for (int open = 1; open <= 9; open++) {
            SwingCity x = Due.city("door 0 8 " + open + ";");
            due.is("OPEN", x.sill(0, 1), open);
            due.is("OPEN less 1 is left over", x.open(0, 80 + Math.min(7, open - 1)), 1);
            due.is("7 is left over by 8", x.open(0, 87), open >= 8 ? 1 : 0);
            if (open < 8) {
                due.is("OPEN is left over", x.open(0, 80 + open), 0);
            }
        }
    }

    private void ropesAreEightAtMost() {
        due.by("Terms", "ROPES 0 .. (8 at most) hang between two SILLS");
        items("rope 0 1 1 0;".repeat(8), 8);
        fault("rope 0 1 1 0;".repeat(9), 104);
        SwingCity x = Due.city("rope 0 1 1 0;".repeat(7) + "rope 2 3 9 17;");
        due.is("ropes", x.count(1), 8);
        due.is("rope 7", x.rope(7, 3), 17);
        due.is("rope 8", x.rope(8, 3), BAD);
        items("rope 3 0 1 0;", 1);
        fault("rope 4 0 1 0;", 5);
        items("rope 0 3 1 0;", 1);
        fault("rope 0 4 1 0;", 7);
    }

    private void beatIsOneToNine() {
        due.by("Terms", "SILLS A, B; BEAT (1 .. 9)");
        fault("rope 0 1 0 0;", 9);
        due.is("BEAT 1", Due.city("rope 0 1 1 0;").rope(0, 2), 1);
        due.is("BEAT 9", Due.city("rope 0 1 9 0;").rope(0, 2), 9);
        fault("rope 0 1 10 0;", 9);
    }

    private void startIsNoughtToSeventeen() {
        due.by("Terms", "START (0 .. 17)");
        due.is("START 0", Due.city("rope 0 1 1 0;").rope(0, 3), 0);
        due.is("START 17", Due.city("rope 0 1 1 17;").rope(0, 3), 17);
        fault("rope 0 1 1 18;", 11);
        fault("rope 0 1 9 18;", 11);
    }

    /** Minute by minute, with all doors open: the end of a ride from a sill, from a minute on. */
    private static int endOfRide(int there, int beat, int from) {
        int t = from;
        while ((t - there) % (2 * beat) != 0) {
            t++;
        }
        return t + beat;
    }

    private void whereARopeIs() {
        due.by("Terms", "the rope is at A in each minute t for which t less START is a whole number of times twice BEAT,"
            + " at B a BEAT later");
        for (int beat = 1; beat <= 9; beat++) {
            for (int start = 0; start <= 17; start += 17) {
                SwingCity x = Due.city("sills 2;rope 1 0 " + beat + " " + start + ";");
                for (int t = 0; t <= 40; t++) {
                    String when = "BEAT " + beat + ", START " + start + ", from minute " + t;
                    due.is("from A, " + when, x.route(1, 1, t, 1, 0), endOfRide(start, beat, t));
                    due.is("from B, " + when, x.route(1, 0, t, 1, 0), endOfRide(start + beat, beat, t));
                }
            }
        }
    }

    private void ridersAreFourAtMost() {
        due.by("Terms", "RIDERS 0 .. (4 at most): a SILL");
        items("rider 0 1 0;".repeat(4), 4);
        fault("rider 0 1 0;".repeat(5), 48);
        SwingCity x = Due.city("rider 0 1 0;".repeat(3) + "rider 3 1 0;");
        due.is("riders", x.count(2), 4);
        due.is("rider 3", x.rider(3, 0), 3);
        due.is("rider 4", x.rider(4, 0), BAD);
        fault("rider 4 1 0;", 6);
    }

    private void gripIsOneToFive() {
        due.by("Terms", "GRIP (1 .. 5)");
        fault("rider 0 0 0;", 8);
        due.is("GRIP 1", Due.city("rider 0 1 0;").rider(0, 2), 1);
        due.is("GRIP 5", Due.city("rider 0 5 0;").rider(0, 2), 5);
        fault("rider 0 6 0;", 8);
    }

    private void purseIsNoughtToNinetyNine() {
        due.by("Terms", "a PURSE (0 .. 99)");
        due.is("PURSE 0", Due.city("rider 0 1 0;").rider(0, 3), 0);
        due.is("PURSE 99", Due.city("rider 0 1 99;").rider(0, 3), 99);
        fault("rider 0 1 100;", 10);
    }

    // ---- Terms, section 1: the text

    private void threeHundredBytes() {
        due.by("Terms", "They are a text (300 bytes at most)");
        items("   " + DOORS_297, 27);
        fault("  " + DOORS_297 + "?", 299);
        fault("  " + DOORS_297 + "d", 299);
        due.is("the last byte counts", Due.city(" ".repeat(292) + "sills 7;").count(0), 7);
        SwingCity x = withBlanks(300);
        due.is("a byte more", x.type(59, 1), FULL);
        due.is("bytes", x.count(5), 300);
    }

    private void blanksAreByte32() {
        due.by("Terms", "read byte by byte, blanks (32) between TOKENS");
        items("   sills   2   ;   door   1   9   9   ;   ", 2);
        items("sills 2;door 1 9 9;", 2);
        items(" ", 0);
        int[] others = {0, 9, 10, 13, 31, 33, 95, 160, 255};
        for (int other : others) {
            fault("sills" + (char) other + "2;", 5);
            fault((char) other + "sills 2;", 0);
            fault("sills 2;" + (char) other, 8);
        }
    }

    private void itemsAreEnded() {
        due.by("Terms", "ITEMS, each ended by ;");
        items("", 0);
        fault("sills 2", 7);
        fault("sills 2 door 0 1 1;", 8);
        fault("sills 2;;", 8);
        fault(";", 0);
        fault("door 0 1 1;door 0 1 1", 21);
    }

    private void sillsAreTheFirstOfAll() {
        due.by("Terms", "sills N (the first of all, if it is told)");
        items("sills 5;rider 4 1 0;", 2);
        items("rider 3 1 0;", 1);
        fault("sills;", 5);
        fault("sills 5 5;", 8);
        fault("sills 5;sills 5;", 8);
    }

    private void theLaterDoorCounts() {
        due.by("Terms", "door S T O (SILL, TURN, OPEN; told again: the later one counts)");
        SwingCity x = Due.city("door 1 9 8;door 2 5 5;door 1 2 1;");
        due.is("TURN, told again", x.sill(1, 0), 2);
        due.is("OPEN, told again", x.sill(1, 1), 1);
        due.is("TURN of the other", x.sill(2, 0), 5);
        items("door 1 9 8;".repeat(20), 20);
        fault("door 0 1;", 8);
        fault("door 0 1 1 1;", 11);
    }

    private void aRopeHasTwoSills() {
        due.by("Terms", "rope A B P F (A, B not one and the same)");
        for (int s = 0; s < 4; s++) {
            fault("rope " + s + " " + s + " 1 0;", 7);
            items("rope " + s + " " + (s + 1) % 4 + " 1 0;", 1);
        }
        fault("rope 0 1 1;", 10);
        fault("rope 0 1 1 1 1;", 13);
    }

    private void aRiderHasThreeNumbers() {
        due.by("Terms", "rider S G C.");
        items("rider 0 1 2;", 1);
        fault("rider 0 1;", 9);
        fault("rider;", 5);
        fault("rider 0 1 2 3;", 12);
    }

    private void tokensAreWordsNumbersAndEnds() {
        due.by("Terms", "TOKENS are words of letters a .. z (sills, door, rope, rider), NUMBERS and ;");
        fault("Sills 2;", 0);
        fault("sillS 2;", 0);
        fault("sills 2;D", 8);
        fault("sills`2;", 5);
        fault("sills{2;", 5);
        fault("sills /;", 6);
        fault("sills :;", 6);
        fault("sills 2:", 7);
        fault("sillsA 2;", 5);
        fault("sillsZ 2;", 5);
        fault("sillsa 2;", 0);
        fault("sillsz 2;", 0);
        fault("sills a;", 6);
        fault("sills z;", 6);
        fault("sills 2a;", 7);
    }

    private void theFirstFaultCounts() {
        due.by("Terms", "FAULT: the place of the first byte of the first TOKEN that can't stand there");
        fault("door 9 0 0?", 5);
        fault("door 0 0 100;?", 7);
        fault("  2;", 2);
        fault("rope rope 1 1 0;", 5);
        fault("door 0 1 1; 99;", 12);
        fault("rope 0 1 1 99;zzz", 11);
    }

    private void sillsBehindAnotherItem() {
        due.by("Terms", "(sills behind another ITEM");
        fault("door 0 1 1;sills 4;", 11);
        fault("rope 0 1 1 0; sills 4;", 14);
        fault("rider 0 1 0;sills 4;", 12);
        fault("sills 2;sills 2;", 8);
        fault("sills 2;sills ?", 8);
    }

    private void aNinthRope() {
        due.by("Terms", "a ninth rope");
        fault("rope 0 1 1 0;".repeat(8) + " rope", 105);
        fault("rope 0 1 1 0;".repeat(8) + "rope ?", 104);
        items("rope 0 1 1 0;".repeat(8) + "rider 0 1 0;", 9);
    }

    private void aFifthRider() {
        due.by("Terms", "a fifth rider");
        fault("rider 0 1 0;".repeat(4) + " rider", 49);
        fault("rider 0 1 0;".repeat(4) + "rider ?", 48);
        items("rider 0 1 0;".repeat(4) + "rope 0 1 1 0;", 5);
    }

    private void aBThatIsA() {
        due.by("Terms", "a B that is A");
        fault("sills 8;rope 7 7 1 0;", 15);
        fault("rope  2   2 1 0;", 10);
    }

    private void aNumberBeyond() {
        due.by("Terms", "a NUMBER beyond what it may be, too)");
        fault("sills  9;", 7);
        fault("sills 2;door 2 1 1;", 13);
        items("sills 2;door 1 1 1;", 2);
        fault("sills 2;rope 2 0 1 0;", 13);
        fault("sills 2;rope 0 2 1 0;", 15);
        items("sills 2;rope 0 1 1 0;", 2);
        fault("sills 2;rider 2 1 0;", 14);
        items("sills 2;rider 1 1 0;", 2);
        items("sills 8;door 7 1 1;rope 7 6 1 0;rider 7 1 0;", 4);
        fault("sills 8;door 8 1 1;", 13);
    }

    private void aByteThatBeginsNone() {
        due.by("Terms", "of a byte that begins none");
        for (int sign = 0; sign < 256; sign++) {
            boolean begins = sign == ' ' || sign == ';' || sign >= '0' && sign <= '9' || sign >= 'a' && sign <= 'z';
            if (!begins) {
                fault("door 0 1 1;" + (char) sign, 11);
            }
        }
        fault("sills -2;", 6);
    }

    private void aWordThatIsNone() {
        due.by("Terms", "a word that is none of these");
        String[] words = {"sill", "sillss", "doo", "doors", "rop", "ropes", "ride", "riders", "s", "z", "sillsdoor", "xills",
            "xoor", "xope", "xider", "sillx", "doox", "ropx", "ridex"};
        for (String word : words) {
            fault(word + " 0 1 1;", 0);
        }
        fault("sills 2;x", 8);
    }

    private void aNumberAbove99() {
        due.by("Terms", "a NUMBER above 99");
        items("rider 0 1 99;", 1);
        fault("rider 0 1 100;", 10);
        fault("rider 0 1 999;", 10);
        // Numbers that would be 2 again, if they wrapped around.
        fault("sills 258;", 6);
        fault("sills 65538;", 6);
        fault("sills 4294967298;", 6);
        fault("sills 18446744073709551618;", 6);
        fault("sills " + "9".repeat(200) + ";", 6);
    }

    private void aNoughtAhead() {
        due.by("Terms", "with a 0 ahead of others, that TOKEN's");
        items("door 0 1 1;", 1);
        fault("door 00 1 1;", 5);
        fault("door 01 1 1;", 5);
        fault("sills 02;", 6);
        fault("rider 0 1 00;", 10);
        items("rider 0 1 10;", 1);
    }

    private void theTextEndsTooEarly() {
        due.by("Terms", "the text's length, if it ends too early.");
        String whole = "rope 0 1 1 0";
        for (int n = 4; n <= whole.length(); n++) {
            if (whole.charAt(n - 1) != ' ') {
                fault(whole.substring(0, n), n);
            }
            fault(whole.substring(0, n) + "   ", n + 3);
        }
        fault(DOORS_297.substring(0, 296) + "    ", 300);
    }

    // ---- Promises 1 to 4

    private void aNewObject() {
        due.by("Promise 1", "As told; four SILLS, no ROPES, nobody.");
        SwingCity x = new SwingCity();
        int[] counts = {4, 0, 0, 0, 0, 0};
        for (int what = 0; what < counts.length; what++) {
            due.is("count(" + what + ")", x.count(what), counts[what]);
        }
        for (int s = 0; s < 4; s++) {
            due.is("TURN", x.sill(s, 0), 1);
            due.is("OPEN", x.sill(s, 1), 1);
        }
        due.is("no such sill", x.sill(4, 0), BAD);
        due.is("no such rope", x.rope(0, 0), BAD);
        due.is("nobody", x.rider(0, 0), BAD);
        due.is("nobody goes", x.go(0, 0), BAD);
        due.is("nothing was done", x.undo(), STATE);
        due.is("no rides", x.meets(), 0);
        due.is("no image 0", x.back(0), STATE);
        due.is("no image 1", x.back(1), STATE);
        due.is("no trace", x.trace(), 0);
    }

    private void theLowestBytes() {
        due.by("Promise 2", "The lowest n (1 .. 8) bytes of v, the highest of them first, come to THE TEXT: how many it has.");
        for (int n = 1; n <= 8; n++) {
            SwingCity x = new SwingCity();
            String text = "sills 3;";
            Due.type(x, text.substring(0, 8 - n));
            long v = -1;
            for (int i = 8 - n; i < 8; i++) {
                v = v << 8 | text.charAt(i);
            }
            due.is(n + " bytes", x.type(v, n), 8);
            due.is(n + " bytes, read", x.city(), 1);
            due.is(n + " bytes, sills", x.count(0), 3);
        }
        SwingCity high = new SwingCity();
        due.is("bytes of 128 and more", high.type(Long.MIN_VALUE, 8), 8);
        due.is("read", high.city(), -10);
    }

    private void typingBad() {
        due.by("Promise 2", "BAD");
        SwingCity x = new SwingCity();
        int[] bad = {0, 9, -1, 16, LEAST, MOST};
        for (int n : bad) {
            due.is("type(59, " + n + ")", x.type(59, n), BAD);
        }
        due.is("no byte came", x.count(5), 0);
    }

    private void typingFull() {
        due.by("Promise 2", "FULL");
        for (int had = 292; had <= 300; had++) {
            for (int n = 1; n <= 8; n++) {
                SwingCity x = withBlanks(had);
                due.is(had + " and " + n, x.type(BLANKS, n), had + n <= 300 ? had + n : FULL);
                due.is(had + " and " + n + ", bytes", x.count(5), had + n <= 300 ? had + n : had);
            }
        }
    }

    private void clearing() {
        due.by("Promise 3", "THE TEXT is empty: how many bytes it had.");
        SwingCity x = new SwingCity();
        due.is("empty", x.clear(), 0);
        x.type(59, 1);
        due.is("one", x.clear(), 1);
        due.is("empty then", x.clear(), 0);
        SwingCity full = withBlanks(300);
        due.is("full", full.clear(), 300);
        due.is("then there is room", full.type(59, 1), 1);
        due.is("and the old bytes are gone", full.city(), -10);
    }

    private void reading() {
        due.by("Promise 4", "THE TEXT tells all anew, and is empty then: how many ITEMS.");
        SwingCity x = Due.city("sills 8;door 0 9 9;rope 0 1 1 1;rider 7 1 1;");
        due.is("the text is empty", x.count(5), 0);
        due.is("an empty text", x.city(), 0);
        int[] counts = {4, 0, 0, 0, 0, 0};
        for (int what = 0; what < counts.length; what++) {
            due.is("anew: count(" + what + ")", x.count(what), counts[what]);
        }
        due.is("anew: TURN", x.sill(0, 0), 1);
        due.is("anew: OPEN", x.sill(0, 1), 1);
        SwingCity doors = Due.city("door 0 9 9;door 3 8 7;");
        due.is("an empty text again", doors.city(), 0);
        due.is("anew: TURN of 3", doors.sill(3, 0), 1);
        due.is("anew: OPEN of 3", doors.sill(3, 1), 1);
        x.type(BLANKS, 8);
        due.is("blanks", x.city(), 0);
        due.is("blanks are read", x.count(5), 0);
        items(DOORS_297, 27);
    }

    private void readingFaults() {
        due.by("Promise 4", "-10 less FAULT: nothing changes.");
        fault("?", 0);
        fault(DOORS_297.substring(0, 296) + "    ", 300);
        String[] texts = {"?", "sills 8;door 1 9 9;rope 7 0 9 9;rider 7 5 5;rider", "rope 0 1 1 1;rope 0 0 1 1;", "sills"};
        for (String text : texts) {
            SwingCity x = Twins.busy();
            x.clear();
            Due.type(x, text);
            SwingCity twin = Twins.busy();
            twin.clear();
            Due.type(twin, text);
            due.is("a fault", x.city() <= -10 ? 1 : 0, 1);
            due.is("the text stays", x.count(5), text.length());
            due.same("behind '" + text + "'", Twins.all(x), Twins.all(twin));
        }
    }

    // ---- Promises 5 to 8, 25

    private void whatOfASill() {
        due.by("Promise 5", "Of a SILL: 0 TURN, 1 OPEN. BAD.");
        SwingCity x = Due.city("sills 2;door 1 9 4;");
        due.is("TURN", x.sill(1, 0), 9);
        due.is("OPEN", x.sill(1, 1), 4);
        int[][] bad = {{-1, 0}, {2, 0}, {LEAST, 0}, {MOST, 0}, {1, -1}, {1, 2}, {1, LEAST}, {1, MOST}, {2, 2}};
        for (int[] b : bad) {
            due.is("sill(" + b[0] + ", " + b[1] + ")", x.sill(b[0], b[1]), BAD);
        }
    }

    private void whatOfARope() {
        due.by("Promise 6", "Of a ROPE: 0 A, 1 B, 2 BEAT, 3 START, 4 whether it is STOPPED. BAD.");
        SwingCity x = Due.city("rope 3 1 2 9;rope 0 2 7 5;");
        x.stop(1);
        int[][] rows = {{3, 1, 2, 9, 0}, {0, 2, 7, 5, 1}};
        for (int k = 0; k < rows.length; k++) {
            for (int what = 0; what < 5; what++) {
                due.is("rope(" + k + ", " + what + ")", x.rope(k, what), rows[k][what]);
            }
        }
        int[][] bad = {{-1, 0}, {2, 0}, {LEAST, 0}, {MOST, 0}, {1, -1}, {1, 5}, {1, LEAST}, {1, MOST}, {0, 5}, {1, -2}};
        for (int[] b : bad) {
            due.is("rope(" + b[0] + ", " + b[1] + ")", x.rope(b[0], b[1]), BAD);
        }
    }

    private void whatOfARider() {
        due.by("Promise 7", "Of a RIDER: 0 SILL, 1 minute, 2 GRIP, 3 PURSE, 4 whether he is OUT. BAD.");
        SwingCity x = Due.city("sills 2;door 1 9 1;rope 0 1 3 0;rider 1 5 99;rider 0 1 20;");
        x.go(1, 0);
        int[][] rows = {{1, 0, 5, 99, 0}, {1, 3, 1, 17, 1}};
        for (int r = 0; r < rows.length; r++) {
            for (int what = 0; what < 5; what++) {
                due.is("rider(" + r + ", " + what + ")", x.rider(r, what), rows[r][what]);
            }
        }
        int[][] bad = {{-1, 0}, {2, 0}, {LEAST, 0}, {MOST, 0}, {1, -1}, {1, 5}, {1, LEAST}, {1, MOST}, {0, 5}, {1, -2}};
        for (int[] b : bad) {
            due.is("rider(" + b[0] + ", " + b[1] + ")", x.rider(b[0], b[1]), BAD);
        }
    }

    private void openInAMinute() {
        due.by("Promise 8", "in a minute (0 .. 999): 1, 0. BAD.");
        SwingCity x = Due.city("sills 3;door 1 9 1;door 2 9 9;");
        due.is("open(1, 0)", x.open(1, 0), 1);
        due.is("open(1, 1)", x.open(1, 1), 0);
        due.is("open(1, 998)", x.open(1, 998), 0);
        due.is("open(1, 999)", x.open(1, 999), 1);
        due.is("open(2, 998)", x.open(2, 998), 1);
        int[][] bad = {{1, -1}, {1, 1000}, {1, -9}, {1, 1008}, {1, LEAST}, {1, MOST}, {-1, 0}, {3, 0}, {LEAST, 0}, {MOST, 0}};
        for (int[] b : bad) {
            due.is("open(" + b[0] + ", " + b[1] + ")", x.open(b[0], b[1]), BAD);
        }
    }

    private void counting() {
        due.by("Promise 25", "0 SILLS, 1 ROPES, 2 RIDERS, 3 SEEN, 4 how many may be UNDONE, 5 bytes of THE TEXT. BAD.");
        SwingCity full = Due.city("sills 8;" + "rope 0 1 1 0;".repeat(8) + "rider 0 1 0;".repeat(4));
        for (int i = 0; i < 11; i++) {
            full.saw(0, 0);
            full.waits(0, 1);
        }
        for (int i = 0; i < 60; i++) {
            full.type(BLANKS, 5);
        }
        int[] counts = {8, 8, 4, 6, 10, 300};
        for (int what = 0; what < counts.length; what++) {
            due.is("full: count(" + what + ")", full.count(what), counts[what]);
        }
        int[] bad = {-1, 6, LEAST, MOST};
        for (int what : bad) {
            due.is("count(" + what + ")", full.count(what), BAD);
        }
    }

    void run() {
        callsOfAnObject();
        sillsAreTwoAtLeast();
        sillsAreEightAtMost();
        whatIsLeftOverByTurn();
        turnIsOneToNine();
        openIsOneToNine();
        ropesAreEightAtMost();
        beatIsOneToNine();
        startIsNoughtToSeventeen();
        whereARopeIs();
        ridersAreFourAtMost();
        gripIsOneToFive();
        purseIsNoughtToNinetyNine();
        runText();
        runPromises();
    }

    private void runText() {
        threeHundredBytes();
        blanksAreByte32();
        itemsAreEnded();
        sillsAreTheFirstOfAll();
        theLaterDoorCounts();
        aRopeHasTwoSills();
        aRiderHasThreeNumbers();
        tokensAreWordsNumbersAndEnds();
        theFirstFaultCounts();
        sillsBehindAnotherItem();
        aNinthRope();
        aFifthRider();
        aBThatIsA();
        aNumberBeyond();
        aByteThatBeginsNone();
        aWordThatIsNone();
        aNumberAbove99();
        aNoughtAhead();
        theTextEndsTooEarly();
    }

    private void runPromises() {
        aNewObject();
        theLowestBytes();
        typingBad();
        typingFull();
        clearing();
        reading();
        readingFaults();
        whatOfASill();
        whatOfARope();
        whatOfARider();
        openInAMinute();
        counting();
    }
}
