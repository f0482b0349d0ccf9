import java.util.ArrayDeque;
import java.util.ArrayList;
import java.util.Arrays;
import java.util.List;
import java.util.regex.Matcher;
import java.util.regex.Pattern;

/**
 * A second, slow reading of the document: minute by minute, by whole copies and by trying all.
 * It shares no thought with the class but the document.
 */
final class Model {
    static final int BAD = -1, STATE = -2, FULL = -3, NONE = -9, NO = -1000000;

    private static final class State {
        int[][] ropes = {};
        int[][] riders = {};
        List<int[]> rides = new ArrayList<>();

        State copy() {
            State s = new State();
            s.ropes = deep(ropes);
            s.riders = deep(riders);
            s.rides = new ArrayList<>(rides);
            return s;
        }

        private static int[][] deep(int[][] rows) {
            int[][] copy = new int[rows.length][];
            for (int i = 0; i < rows.length; i++) {
                copy[i] = rows[i].clone();
            }
            return copy;
        }
    }

    private StringBuilder text = new StringBuilder();
    private int[][] doors = {{1, 1}, {1, 1}, {1, 1}, {1, 1}};
    private State now = new State();
    private List<State> past = new ArrayList<>();
    private List<int[]> seen = new ArrayList<>();
    private final State[] images = new State[2];
    private final List<List<State>> imagePasts = new ArrayList<>(Arrays.asList(null, null));
    private long trace = 0;

    int type(long v, int n) {
        if (n < 1 || n > 8) {
            return BAD;
        }
        if (text.length() + n > 300) {
            return FULL;
        }
        for (int i = 0; i < n; i++) {
            text.append((char) (v >> 8 * (n - 1 - i) & 0xff));
        }
        return text.length();
    }

    int clear() {
        int n = text.length();
        text = new StringBuilder();
        return n;
    }

    private static boolean canBeNumber(String token, int least, int most) {
        return token.matches("0|[1-9][0-9]?") && Integer.parseInt(token) >= least && Integer.parseInt(token) <= most;
    }

    int city() {
        List<String> tokens = new ArrayList<>();
        List<Integer> places = new ArrayList<>();
        Matcher m = Pattern.compile("[a-z]+|[0-9]+|[^ ]", Pattern.DOTALL).matcher(text);
        while (m.find()) {
            tokens.add(m.group());
            places.add(m.start());
        }
        tokens.add("END");
        places.add(text.length());
        int[][] newDoors = {{1, 1}, {1, 1}, {1, 1}, {1, 1}};
        List<int[]> ropes = new ArrayList<>();
        List<int[]> riders = new ArrayList<>();
        int at = 0;
        int items = 0;
        while (!tokens.get(at).equals("END")) {
            String word = tokens.get(at);
            int last = newDoors.length - 1;
            int[][] ranges;
            if (word.equals("sills") && items == 0) {
                ranges = new int[][] {{2, 8}};
            } else if (word.equals("door")) {
                ranges = new int[][] {{0, last}, {1, 9}, {1, 9}};
            } else if (word.equals("rope") && ropes.size() < 8) {
                ranges = new int[][] {{0, last}, {0, last}, {1, 9}, {0, 17}};
            } else if (word.equals("rider") && riders.size() < 4) {
                ranges = new int[][] {{0, last}, {1, 5}, {0, 99}};
            } else {
                return -10 - places.get(at);
            }
            int[] n = new int[ranges.length];
            for (int i = 0; i < n.length; i++) {
                at++;
                if (!canBeNumber(tokens.get(at), ranges[i][0], ranges[i][1])
                        || word.equals("rope") && i == 1 && Integer.parseInt(tokens.get(at)) == n[0]) {
                    return -10 - places.get(at);
                }
                n[i] = Integer.parseInt(tokens.get(at));
            }
            at++;
            if (!tokens.get(at).equals(";")) {
                return -10 - places.get(at);
            }
            at++;
            items++;
            switch (word) {
                case "sills" -> {
                    newDoors = new int[n[0]][];
                    Arrays.setAll(newDoors, i -> new int[] {1, 1});
                }
                case "door" -> newDoors[n[0]] = new int[] {n[1], n[2]};
                case "rope" -> ropes.add(new int[] {n[0], n[1], n[2], n[3], 0});
                default -> riders.add(new int[] {n[0], 0, n[1], n[2], 0});
            }
        }
        doors = newDoors;
        now = new State();
        now.ropes = ropes.toArray(new int[0][]);
        now.riders = riders.toArray(new int[0][]);
        past = new ArrayList<>();
        seen = new ArrayList<>();
        images[0] = null;
        images[1] = null;
        clear();
        return items;
    }

    private static int cell(int[][] rows, int i, int what) {
        return i < 0 || i >= rows.length || what < 0 || what >= rows[i].length ? BAD : rows[i][what];
    }

    private boolean isSill(int s) {
        return s >= 0 && s < doors.length;
    }

    private boolean isRope(int k) {
        return k >= 0 && k < now.ropes.length;
    }

    private boolean isRider(int r) {
        return r >= 0 && r < now.riders.length;
    }

    private static boolean isMinute(int t) {
        return t >= 0 && t <= 999;
    }

    int sill(int s, int what) {
        return cell(doors, s, what);
    }

    int rope(int k, int what) {
        return cell(now.ropes, k, what);
    }

    int rider(int r, int what) {
        return cell(now.riders, r, what);
    }

    int open(int s, int t) {
        return !isSill(s) || !isMinute(t) ? BAD : isOpen(s, t) ? 1 : 0;
    }

    private boolean isOpen(int s, int t) {
        return t % doors[s][0] < doors[s][1];
    }

    /** The sill at which a rope is in a minute; -1: between them. */
    private static int whereIs(int[] rope, int t) {
        int back = rope[3];
        int beats = 0;
        while (back > t) {
            back -= rope[2];
            beats++;
        }
        while (back < t) {
            back += rope[2];
            beats++;
        }
        return back != t ? -1 : beats % 2 == 0 ? rope[0] : rope[1];
    }

    /** Taken, end, sill, whether it falls; null: none, or not by 999. */
    private int[] ride(int[] rope, int grip, int sill, int from) {
        if (rope[4] == 1 || rope[0] != sill && rope[1] != sill) {
            return null;
        }
        int t = from;
        while (whereIs(rope, t) != sill) {
            t++;
        }
        int taken = t;
        int stops = 0;
        while (stops < grip) {
            t++;
            if (t > 999) {
                return null;
            }
            int at = whereIs(rope, t);
            if (at >= 0) {
                stops++;
                if (isOpen(at, t)) {
                    return new int[] {taken, t, at, 0};
                }
            }
        }
        return new int[] {taken, t, whereIs(rope, t), 1};
    }

    private void remember() {
        past.add(now.copy());
        if (past.size() > 10) {
            past.remove(0);
        }
    }

    int go(int r, int k) {
        if (!isRider(r) || !isRope(k)) {
            return BAD;
        }
        int[] rider = now.riders[r];
        int[] ride = rider[4] == 1 ? null : ride(now.ropes[k], rider[2], rider[0], rider[1]);
        if (ride == null) {
            return STATE;
        }
        remember();
        rider[0] = ride[2];
        rider[1] = ride[1];
        rider[3] = Math.max(0, rider[3] - now.ropes[k][2]);
        rider[4] = ride[3];
        now.rides.add(new int[] {r, k, ride[0], ride[1]});
        if (now.rides.size() > 10) {
            int[] lost = now.rides.remove(0);
            for (State s : past) {
                s.rides.remove(lost);
            }
        }
        return ride[1] + 1000 * ride[3];
    }

    int waits(int r, int n) {
        if (!isRider(r) || n < 1 || n > 99) {
            return BAD;
        }
        if (now.riders[r][4] == 1 || now.riders[r][1] + n > 999) {
            return STATE;
        }
        remember();
        return now.riders[r][1] += n;
    }

    int stop(int k) {
        if (!isRope(k)) {
            return BAD;
        }
        if (now.ropes[k][4] == 1) {
            return STATE;
        }
        remember();
        now.ropes[k][4] = 1;
        return 1;
    }

    int push(int k, int t) {
        if (!isRope(k) || !isMinute(t)) {
            return BAD;
        }
        remember();
        int start = now.ropes[k][3];
        now.ropes[k][3] = t;
        now.ropes[k][4] = 0;
        return start;
    }

    int undo() {
        if (past.isEmpty()) {
            return STATE;
        }
        now = past.remove(past.size() - 1);
        return past.size();
    }

    /** Whether there is a minute, from its beginning to its end, in which both were on the rope. */
    private static boolean shareTime(int[] one, int[] other) {
        for (int t = 0; t < 1000; t++) {
            if (one[2] <= t && t < one[3] && other[2] <= t && t < other[3]) {
                return true;
            }
        }
        return false;
    }

    int meets() {
        int pairs = 0;
        for (int[] one : now.rides) {
            for (int[] other : now.rides) {
                if (one[0] < other[0] && one[1] == other[1] && shareTime(one, other)) {
                    pairs++;
                }
            }
        }
        return pairs;
    }

    /** The soonest minute and its fewest rides, over all sills and minutes, waiting a minute at a time; null: none. */
    private int[] soonestBy(int[][] ropes, int a, int t, int b) {
        int[][] fewest = new int[doors.length][1000];
        for (int[] row : fewest) {
            Arrays.fill(row, Integer.MAX_VALUE);
        }
        fewest[a][t] = 0;
        for (int minute = t; minute <= 999; minute++) {
            for (int s = 0; s < doors.length; s++) {
                if (fewest[s][minute] == Integer.MAX_VALUE) {
                    continue;
                }
                if (s == b) {
                    return new int[] {minute, fewest[s][minute]};
                }
                if (minute < 999) {
                    fewest[s][minute + 1] = Math.min(fewest[s][minute + 1], fewest[s][minute]);
                }
                for (int[] rope : ropes) {
                    int[] ride = whereIs(rope, minute) == s ? ride(rope, 1000, s, minute) : null;
                    if (ride != null) {
                        fewest[ride[2]][ride[1]] = Math.min(fewest[ride[2]][ride[1]], fewest[s][minute] + 1);
                    }
                }
            }
        }
        return null;
    }

    int soonest(int a, int t, int b, int what) {
        if (!isSill(a) || !isSill(b) || !isMinute(t) || what < 0 || what > 1) {
            return BAD;
        }
        int[] way = soonestBy(now.ropes, a, t, b);
        return way == null ? NONE : way[what];
    }

    /** Minute, sill; or the first ride that can not be, alone. */
    private int[] routeBy(int[][] ropes, int grip, int a, int t, String figures) {
        int sill = a;
        int minute = t;
        for (int i = 0; i < figures.length(); i++) {
            int k = figures.charAt(i) - '1';
            int[] ride = k < ropes.length ? ride(ropes[k], grip, sill, minute) : null;
            if (ride == null || ride[3] == 1) {
                return new int[] {i};
            }
            sill = ride[2];
            minute = ride[1];
        }
        return new int[] {minute, sill};
    }

    private static String figures(int ropes) {
        return ropes == 0 ? "" : String.valueOf(ropes);
    }

    private boolean isRouteBad(int grip, int a, int t, int ropes, int most, int what) {
        return grip < 1 || grip > 5 || !isSill(a) || !isMinute(t) || what < 0 || what > 1
            || !figures(ropes).matches("[1-8]{0," + most + "}");
    }

    int route(int grip, int a, int t, int ropes, int what) {
        if (isRouteBad(grip, a, t, ropes, 6, what)) {
            return BAD;
        }
        int[] route = routeBy(now.ropes, grip, a, t, figures(ropes));
        return route.length == 1 ? -10 - route[0] : route[what];
    }

    int drift(int grip, int a, int t, int ropes, int d, int what) {
        if (isRouteBad(grip, a, t, ropes, 4, what) || d < 0 || d > 2) {
            return BAD;
        }
        String figures = figures(ropes);
        List<Integer> ends = new ArrayList<>();
        ArrayDeque<int[][]> cities = new ArrayDeque<>();
        cities.add(now.copy().ropes);
        for (int k = 0; k < now.ropes.length; k++) {
            if (figures.indexOf('1' + k) < 0) {
                continue;
            }
            for (int left = cities.size(); left > 0; left--) {
                int[][] city = cities.remove();
                for (int more = 0; more <= d; more++) {
                    int[][] drifted = State.deep(city);
                    drifted[k][2] += more;
                    cities.add(drifted);
                }
            }
        }
        for (int[][] city : cities) {
            int[] route = routeBy(city, grip, a, t, figures);
            if (route.length == 2) {
                ends.add(route[0]);
            }
        }
        ends.sort(null);
        return ends.isEmpty() ? NONE : ends.get(what == 0 ? 0 : ends.size() - 1);
    }

    int tune(int k, int a, int t, int b, int what) {
        if (!isRope(k) || !isSill(a) || !isSill(b) || !isMinute(t) || what < 0 || what > 1) {
            return BAD;
        }
        int[] best = {NONE, NONE};
        for (int beat = 9; beat >= 1; beat--) {
            int[][] ropes = now.copy().ropes;
            ropes[k][2] = beat;
            ropes[k][4] = 0;
            int[] way = soonestBy(ropes, a, t, b);
            if (way != null && (best[0] == NONE || way[0] <= best[1])) {
                best = new int[] {beat, way[0]};
            }
        }
        return best[what];
    }

    int saw(int s, int t) {
        if (!isSill(s) || !isMinute(t)) {
            return BAD;
        }
        if (seen.size() == 6) {
            return FULL;
        }
        seen.add(new int[] {s, t});
        return seen.size();
    }

    int forget() {
        int n = seen.size();
        seen.clear();
        return n;
    }

    /** On which sill one is in each minute, by a row of ropes; null: no route. */
    private int[] whereabouts(int grip, int a, int[] row) {
        int[] on = new int[1000];
        Arrays.fill(on, a);
        int sill = a;
        int minute = 0;
        for (int k : row) {
            int[] ride = ride(now.ropes[k], grip, sill, minute);
            if (ride == null || ride[3] == 1) {
                return null;
            }
            Arrays.fill(on, ride[0] + 1, 1000, -1);
            Arrays.fill(on, ride[1], 1000, ride[2]);
            sill = ride[2];
            minute = ride[1];
        }
        return on;
    }

    int fits(int grip, int a, int n) {
        if (grip < 1 || grip > 5 || !isSill(a) || n < 0 || n > 4) {
            return BAD;
        }
        int rows = (int) Math.pow(now.ropes.length, n);
        int fitting = 0;
        for (int i = 0; i < rows; i++) {
            int[] row = new int[n];
            int left = i;
            for (int j = 0; j < n; j++) {
                row[j] = left % now.ropes.length;
                left /= now.ropes.length;
            }
            int[] on = whereabouts(grip, a, row);
            boolean fit = on != null;
            for (int[] s : seen) {
                fit = fit && on[s[1]] == s[0];
            }
            fitting += fit ? 1 : 0;
        }
        return fitting;
    }

    int rate(int kind, int r) {
        if (kind < 0 || kind > 5 || !isRider(r)) {
            return NO;
        }
        int[] v = now.riders[r];
        int stopped = 0;
        for (int[] rope : now.ropes) {
            stopped += rope[4];
        }
        long[] marks = {1, 11, 101, 1011, 10101, 100001};
        int[] rates = {v[3], v[3] + v[2], v[3] - v[1], 2 * (v[3] + v[2]), v[3] - v[1] + v[0], v[3] + stopped};
        trace += marks[kind];
        return rates[kind];
    }

    private int in() {
        int in = 0;
        for (int[] rider : now.riders) {
            in += 1 - rider[4];
        }
        return in;
    }

    private static List<State> copies(List<State> states) {
        List<State> copies = new ArrayList<>();
        for (State s : states) {
            copies.add(s.copy());
        }
        return copies;
    }

    int keep(int image) {
        if (image < 0 || image > 1) {
            return BAD;
        }
        images[image] = now.copy();
        imagePasts.set(image, copies(past));
        return in();
    }

    int back(int image) {
        if (image < 0 || image > 1) {
            return BAD;
        }
        if (images[image] == null) {
            return STATE;
        }
        now = images[image].copy();
        past = copies(imagePasts.get(image));
        return in();
    }

    int count(int what) {
        int[] counts = {doors.length, now.ropes.length, now.riders.length, seen.size(), past.size(), text.length()};
        return what < 0 || what > 5 ? BAD : counts[what];
    }

    long trace() {
        return trace;
    }
}
