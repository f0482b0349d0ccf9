/** A city whose streets are swings: its sills, ropes and riders, their rides, and the ways through it. */
public final class SwingCity {
    public static final int BAD = -1, STATE = -2, FULL = -3, NONE = -9;
    public static final int NO = -1000000;

    private static final int LAST_MINUTE = 999, TOO_LATE = 1000;
    private static final int MOST_SILLS = 8, MOST_ROPES = 8, MOST_RIDERS = 4;
    private static final int MOST_BYTES = 300, MOST_SEEN = 6, MOST_KNOWN = 10, IMAGES = 2;
    private static final int MOST_GRIP = 5, MOST_BEAT = 9, MOST_WAIT = 99, MOST_DRIFT = 2, MOST_FITS = 4;
    private static final int ROUTE_ROPES = 6, DRIFT_ROPES = 4;
    private static final int FAULT_BASE = -10;

    // The columns of a door, a rope and a rider are numbered as sill(), rope() and rider() ask for them.
    private static final int TURN = 0, OPEN = 1, DOOR_WIDTH = 2;
    private static final int A = 0, B = 1, BEAT = 2, START = 3, STOPPED = 4, ROPE_WIDTH = 5;
    private static final int SILL = 0, MINUTE = 1, GRIP = 2, PURSE = 3, OUT = 4, RIDER_WIDTH = 5;
    private static final int RIDE_RIDER = 0, RIDE_ROPE = 1, RIDE_TAKEN = 2, RIDE_END = 3, RIDE_WIDTH = 4;
    private static final int SEEN_SILL = 0, SEEN_MINUTE = 1, SEEN_WIDTH = 2;

    // A deed is what undo() needs: its sort, whose row it changed, and that row as it was (five numbers).
    private static final int DEED_SORT = 0, DEED_ROW = 1, DEED_OLD = 2, DEED_WIDTH = 7;
    private static final int SORT_GO = 0, SORT_WAIT = 1, SORT_ROPE = 2;

    private static final int RIDER_KIND = 0, CHILD = 1, PORTER = 2, THIEF = 3, MIDWIFE = 4, LOVER = 5;
    private static final int[] KIND_MARK = {1, 10, 100, 1000, 10000, 100000};

    private final int[] text = new int[MOST_BYTES];
    private int textLength = 0;
    private final Rows doors = new Rows(MOST_SILLS, DOOR_WIDTH);
    private final Now now = new Now();
    private final Rows seen = new Rows(MOST_SEEN, SEEN_WIDTH);
    private final Now[] images = {new Now(), new Now()};
    private final boolean[] kept = new boolean[IMAGES];
    private long marks = 0;

    private final Reader reader = new Reader();
    private final Streets streets = new Streets(doors, now.ropes);
    private final Streets trial = new Streets(doors, new Rows(MOST_ROPES, ROPE_WIDTH));
    private final Ride ride = new Ride();
    private final Route told = new Route();
    private final Ways ways = new Ways();
    private final int[] drifting = new int[DRIFT_ROPES];

    public SwingCity() {
        reader.startAnew();
        doors.copyFrom(reader.doors);
    }

    // ---- the city

    public int type(long v, int n) {
        if (n < 1 || n > 8) {
            return BAD;
        }
        if (textLength + n > MOST_BYTES) {
            return FULL;
        }
        for (int i = n - 1; i >= 0; i--) {
            text[textLength] = (int) (v >>> (8 * i)) & 255;
            textLength++;
        }
        return textLength;
    }

    public int clear() {
        int had = textLength;
        textLength = 0;
        return had;
    }

    public int city() {
        int items = reader.read(text, textLength);
        if (items < 0) {
            return items;
        }
        doors.copyFrom(reader.doors);
        now.ropes.copyFrom(reader.ropes);
        now.riders.copyFrom(reader.riders);
        now.deeds.empty();
        now.rides.empty();
        seen.empty();
        kept[0] = false;
        kept[1] = false;
        textLength = 0;
        return items;
    }

    public int sill(int s, int what) {
        return doors.has(s) && within(what, 0, DOOR_WIDTH - 1) ? doors.get(s, what) : BAD;
    }

    public int rope(int k, int what) {
        return now.ropes.has(k) && within(what, 0, ROPE_WIDTH - 1) ? now.ropes.get(k, what) : BAD;
    }

    public int rider(int r, int what) {
        return now.riders.has(r) && within(what, 0, RIDER_WIDTH - 1) ? now.riders.get(r, what) : BAD;
    }

    public int open(int s, int t) {
        if (!doors.has(s) || !isMinute(t)) {
            return BAD;
        }
        return streets.isOpen(s, t) ? 1 : 0;
    }

    // ---- rides

    public int go(int r, int k) {
        if (!now.riders.has(r) || !now.ropes.has(k)) {
            return BAD;
        }
        Rows riders = now.riders;
        if (riders.get(r, OUT) == 1) {
            return STATE;
        }
        if (!ride.find(streets, k, riders.get(r, GRIP), riders.get(r, SILL), riders.get(r, MINUTE))) {
            return STATE;
        }
        now.noteDeed(SORT_GO, r, riders);
        now.noteRide(r, k, ride);
        riders.set(r, SILL, ride.sill);
        riders.set(r, MINUTE, ride.end);
        riders.set(r, PURSE, Math.max(0, riders.get(r, PURSE) - now.ropes.get(k, BEAT)));
        riders.set(r, OUT, ride.falls ? 1 : 0);
        return ride.falls ? ride.end + 1000 : ride.end;
    }

    public int waits(int r, int n) {
        if (!now.riders.has(r) || !within(n, 1, MOST_WAIT)) {
            return BAD;
        }
        int minute = now.riders.get(r, MINUTE) + n;
        if (now.riders.get(r, OUT) == 1 || minute > LAST_MINUTE) {
            return STATE;
        }
        now.noteDeed(SORT_WAIT, r, now.riders);
        now.riders.set(r, MINUTE, minute);
        return minute;
    }

    public int stop(int k) {
        if (!now.ropes.has(k)) {
            return BAD;
        }
        if (now.ropes.get(k, STOPPED) == 1) {
            return STATE;
        }
        now.noteDeed(SORT_ROPE, k, now.ropes);
        now.ropes.set(k, STOPPED, 1);
        return 1;
    }

    public int push(int k, int t) {
        if (!now.ropes.has(k) || !isMinute(t)) {
            return BAD;
        }
        int before = now.ropes.get(k, START);
        now.noteDeed(SORT_ROPE, k, now.ropes);
        now.ropes.set(k, START, t);
        now.ropes.set(k, STOPPED, 0);
        return before;
    }

    public int undo() {
        if (now.deeds.size == 0) {
            return STATE;
        }
        now.takeBack();
        return now.deeds.size;
    }

    public int meets() {
        int pairs = 0;
        for (int i = 0; i < now.rides.size; i++) {
            for (int j = i + 1; j < now.rides.size; j++) {
                if (now.haveMet(i, j)) {
                    pairs++;
                }
            }
        }
        return pairs;
    }

    // ---- ways

    public int soonest(int a, int t, int b, int what) {
        if (!doors.has(a) || !isMinute(t) || !doors.has(b) || !within(what, 0, 1)) {
            return BAD;
        }
        if (!ways.find(streets, a, t, b)) {
            return NONE;
        }
        return what == 0 ? ways.minute : ways.rides;
    }

    public int route(int grip, int a, int t, int ropes, int what) {
        if (!canAskRoute(grip, a, t, what) || !told.read(ropes, ROUTE_ROPES)) {
            return BAD;
        }
        int made = told.follow(streets, grip, a, t);
        if (made < told.size) {
            return FAULT_BASE - made;
        }
        return what == 0 ? told.minute : told.sill;
    }

    public int drift(int grip, int a, int t, int ropes, int d, int what) {
        if (!canAskRoute(grip, a, t, what) || !within(d, 0, MOST_DRIFT) || !told.read(ropes, DRIFT_ROPES)) {
            return BAD;
        }
        int unlike = told.listUnlike(drifting);
        int choices = 1;
        for (int i = 0; i < unlike; i++) {
            choices *= d + 1;
        }
        int least = NONE;
        int greatest = NONE;
        for (int choice = 0; choice < choices; choice++) {
            driftBy(choice, unlike, d);
            if (told.follow(trial, grip, a, t) == told.size) {
                least = least == NONE ? told.minute : Math.min(least, told.minute);
                greatest = Math.max(greatest, told.minute);
            }
        }
        return what == 0 ? least : greatest;
    }

    public int tune(int k, int a, int t, int b, int what) {
        if (!now.ropes.has(k) || !doors.has(a) || !isMinute(t) || !doors.has(b) || !within(what, 0, 1)) {
            return BAD;
        }
        trial.ropes.copyFrom(now.ropes);
        trial.ropes.set(k, STOPPED, 0);
        int bestBeat = NONE;
        int bestMinute = TOO_LATE;
        for (int beat = 1; beat <= MOST_BEAT; beat++) {
            trial.ropes.set(k, BEAT, beat);
            if (ways.find(trial, a, t, b) && ways.minute < bestMinute) {
                bestBeat = beat;
                bestMinute = ways.minute;
            }
        }
        if (bestBeat == NONE) {
            return NONE;
        }
        return what == 0 ? bestBeat : bestMinute;
    }

    public int saw(int s, int t) {
        if (!doors.has(s) || !isMinute(t)) {
            return BAD;
        }
        if (!seen.add()) {
            return FULL;
        }
        seen.set(seen.size - 1, SEEN_SILL, s);
        seen.set(seen.size - 1, SEEN_MINUTE, t);
        return seen.size;
    }

    public int forget() {
        int had = seen.size;
        seen.empty();
        return had;
    }

    public int fits(int grip, int a, int n) {
        if (!within(grip, 1, MOST_GRIP) || !doors.has(a) || !within(n, 0, MOST_FITS)) {
            return BAD;
        }
        return countFitting(grip, a, 0, n);
    }

    // ---- kinds, images

    public int rate(int kind, int r) {
        if (!within(kind, RIDER_KIND, LOVER) || !now.riders.has(r)) {
            return NO;
        }
        return rateAs(kind, r);
    }

    public int keep(int image) {
        if (!within(image, 0, IMAGES - 1)) {
            return BAD;
        }
        images[image].copyFrom(now);
        kept[image] = true;
        return now.ridersIn();
    }

    public int back(int image) {
        if (!within(image, 0, IMAGES - 1)) {
            return BAD;
        }
        if (!kept[image]) {
            return STATE;
        }
        now.copyFrom(images[image]);
        return now.ridersIn();
    }

    public int count(int what) {
        switch (what) {
            case 0: return doors.size;
            case 1: return now.ropes.size;
            case 2: return now.riders.size;
            case 3: return seen.size;
            case 4: return now.deeds.size;
            case 5: return textLength;
            default: return BAD;
        }
    }

    public long trace() {
        return marks;
    }

    // ---- what the calls share

    private static boolean within(int number, int least, int most) {
        return number >= least && number <= most;
    }

    private static boolean isMinute(int t) {
        return within(t, 0, LAST_MINUTE);
    }

    private boolean canAskRoute(int grip, int a, int t, int what) {
        return within(grip, 1, MOST_GRIP) && doors.has(a) && isMinute(t) && within(what, 0, 1);
    }

    /** Sets the trial ropes to one choice of drifts: its figures to the base d + 1 are those of the unlike ropes. */
    private void driftBy(int choice, int unlike, int d) {
        trial.ropes.copyFrom(now.ropes);
        int base = Math.max(1, d + 1);
        int left = choice;
        for (int i = 0; i < unlike && i < drifting.length; i++) {
            int k = drifting[i];
            trial.ropes.set(k, BEAT, now.ropes.get(k, BEAT) + left % base);
            left /= base;
        }
    }

    /** How many rows of so many more ropes, from a sill on which one is from a minute on, are as was seen. */
    private int countFitting(int grip, int sill, int from, int more) {
        if (more <= 0) {
            return isAsSeen(sill, from, LAST_MINUTE, TOO_LATE) ? 1 : 0;
        }
        int rows = 0;
        for (int k = 0; k < now.ropes.size; k++) {
            if (ride.find(streets, k, grip, sill, from) && !ride.falls
                    && isAsSeen(sill, from, ride.taken, ride.end)) {
                rows += countFitting(grip, ride.sill, ride.end, more - 1);
            }
        }
        return rows;
    }

    /** Whether all that was seen from a minute on and ahead of another was on this sill, by the minute one left it. */
    private boolean isAsSeen(int sill, int from, int left, int before) {
        for (int i = 0; i < seen.size; i++) {
            int minute = seen.get(i, SEEN_MINUTE);
            boolean concerns = minute >= from && minute < before;
            if (concerns && (minute > left || seen.get(i, SEEN_SILL) != sill)) {
                return false;
            }
        }
        return true;
    }

    private int rateAs(int kind, int r) {
        if (!within(kind, 0, KIND_MARK.length - 1)) {
            return NO;
        }
        marks += KIND_MARK[kind];
        switch (kind) {
            case CHILD: return rateAs(RIDER_KIND, r) + now.riders.get(r, GRIP);
            case PORTER: return rateAs(RIDER_KIND, r) - now.riders.get(r, MINUTE);
            case THIEF: return 2 * rateAs(CHILD, r);
            case MIDWIFE: return rateAs(PORTER, r) + now.riders.get(r, SILL);
            case LOVER: return rateAs(RIDER_KIND, r) + now.ropes.sum(STOPPED);
            default: return now.riders.get(r, PURSE);
        }
    }

    /** A table of numbers that never grows: rows 0 .. size - 1; every index is looked at here, in one place. */
    private static final class Rows {
        final int room;
        final int width;
        final int[] cells;
        int size = 0;

        Rows(int room, int width) {
            this.room = Math.max(0, room);
            this.width = Math.max(0, width);
            this.cells = new int[this.room * this.width];
        }

        boolean has(int row) {
            return row >= 0 && row < size;
        }

        int get(int row, int column) {
            int cell = row * width + column;
            boolean isThere = row >= 0 && row < size && column >= 0 && column < width && cell < cells.length;
            return isThere ? cells[cell] : 0;
        }

        void set(int row, int column, int value) {
            int cell = row * width + column;
            if (row >= 0 && row < size && column >= 0 && column < width && cell < cells.length) {
                cells[cell] = value;
            }
        }

        int sum(int column) {
            int all = 0;
            for (int row = 0; row < size; row++) {
                all += get(row, column);
            }
            return all;
        }

        void empty() {
            size = 0;
        }

        boolean add() {
            if (size >= room) {
                return false;
            }
            size++;
            return true;
        }

        /** Adds a row; where there is no room, the oldest one is lost for it. */
        void addLatest() {
            if (add()) {
                return;
            }
            for (int i = 0; i + width < cells.length; i++) {
                cells[i] = cells[i + width];
            }
        }

        void dropLatest() {
            if (size > 0) {
                size--;
            }
        }

        void copyFrom(Rows other) {
            size = Math.min(room, other.size);
            int used = Math.min(cells.length, other.cells.length);
            for (int i = 0; i < used; i++) {
                cells[i] = other.cells[i];
            }
        }
    }

    /** What images keep: riders, ropes, what may be undone, the rides that are known. */
    private static final class Now {
        final Rows ropes = new Rows(MOST_ROPES, ROPE_WIDTH);
        final Rows riders = new Rows(MOST_RIDERS, RIDER_WIDTH);
        final Rows deeds = new Rows(MOST_KNOWN, DEED_WIDTH);
        final Rows rides = new Rows(MOST_KNOWN, RIDE_WIDTH);

        void copyFrom(Now other) {
            ropes.copyFrom(other.ropes);
            riders.copyFrom(other.riders);
            deeds.copyFrom(other.deeds);
            rides.copyFrom(other.rides);
        }

        int ridersIn() {
            return riders.size - riders.sum(OUT);
        }

        void noteDeed(int sort, int row, Rows changed) {
            deeds.addLatest();
            int latest = deeds.size - 1;
            deeds.set(latest, DEED_SORT, sort);
            deeds.set(latest, DEED_ROW, row);
            for (int column = 0; column < changed.width; column++) {
                deeds.set(latest, DEED_OLD + column, changed.get(row, column));
            }
        }

        void noteRide(int r, int k, Ride ride) {
            rides.addLatest();
            int latest = rides.size - 1;
            rides.set(latest, RIDE_RIDER, r);
            rides.set(latest, RIDE_ROPE, k);
            rides.set(latest, RIDE_TAKEN, ride.taken);
            rides.set(latest, RIDE_END, ride.end);
        }

        void takeBack() {
            int latest = deeds.size - 1;
            int sort = deeds.get(latest, DEED_SORT);
            Rows changed = sort == SORT_ROPE ? ropes : riders;
            for (int column = 0; column < changed.width; column++) {
                changed.set(deeds.get(latest, DEED_ROW), column, deeds.get(latest, DEED_OLD + column));
            }
            // Whatever go() is undone is the latest one, so its ride is the latest that is known.
            if (sort == SORT_GO) {
                rides.dropLatest();
            }
            deeds.dropLatest();
        }

        boolean haveMet(int i, int j) {
            return rides.get(i, RIDE_RIDER) != rides.get(j, RIDE_RIDER)
                && rides.get(i, RIDE_ROPE) == rides.get(j, RIDE_ROPE)
                && rides.get(i, RIDE_TAKEN) < rides.get(j, RIDE_END)
                && rides.get(i, RIDE_END) > rides.get(j, RIDE_TAKEN);
        }
    }

    /** Doors and ropes, and when they are where; ropes on trial may have other beats than those of now. */
    private static final class Streets {
        final Rows doors;
        final Rows ropes;

        Streets(Rows doors, Rows ropes) {
            this.doors = doors;
            this.ropes = ropes;
        }

        boolean isOpen(int s, int t) {
            int turn = doors.get(s, TURN);
            return turn > 0 && t % turn < doors.get(s, OPEN);
        }

        boolean canTake(int k, int s) {
            return ropes.has(k) && ropes.get(k, STOPPED) == 0 && ropes.get(k, BEAT) > 0
                && (ropes.get(k, A) == s || ropes.get(k, B) == s);
        }

        int otherEnd(int k, int s) {
            return ropes.get(k, A) == s ? ropes.get(k, B) : ropes.get(k, A);
        }

        /** The first minute, this one or later, in which a rope is at one of its sills. */
        int firstAt(int k, int s, int from) {
            int beat = ropes.get(k, BEAT);
            if (beat < 1) {
                return TOO_LATE;
            }
            int there = ropes.get(k, START) + (ropes.get(k, A) == s ? 0 : beat);
            return from + Math.floorMod(there - from, 2 * beat);
        }

        /** The first minute in which a rope, taken from a minute on, lets one go at its other sill. */
        int firstAcross(int k, int s, int from) {
            int beat = ropes.get(k, BEAT);
            if (beat < 1) {
                return TOO_LATE;
            }
            int to = otherEnd(k, s);
            for (int t = firstAt(k, s, from) + beat; t <= LAST_MINUTE; t += 2 * beat) {
                if (isOpen(to, t)) {
                    return t;
                }
            }
            return TOO_LATE;
        }
    }

    /** One ride: when the rope is taken, when and where it ends, and whether by a fall. */
    private static final class Ride {
        int taken = 0;
        int end = 0;
        int sill = 0;
        boolean falls = false;

        /** Whether there is such a ride that ends in time; a fall is an end, too. */
        boolean find(Streets streets, int k, int grip, int from, int minute) {
            falls = false;
            if (!streets.canTake(k, from)) {
                return false;
            }
            taken = streets.firstAt(k, from, minute);
            end = taken;
            sill = from;
            for (int beats = 0; beats < grip; beats++) {
                end += streets.ropes.get(k, BEAT);
                sill = streets.otherEnd(k, sill);
                if (streets.isOpen(sill, end)) {
                    return end <= LAST_MINUTE;
                }
            }
            falls = true;
            return end <= LAST_MINUTE;
        }
    }

    /** Rides by told ropes one behind another. */
    private static final class Route {
        final Rows told = new Rows(ROUTE_ROPES, 1);
        final Ride ride = new Ride();
        int size = 0;
        int minute = 0;
        int sill = 0;

        /** Reads the figures 1 .. 8, the lowest first: whether they are such, and no more than may be. */
        boolean read(int figures, int most) {
            told.empty();
            size = 0;
            int left = figures;
            while (left > 0 && told.size < most) {
                int figure = left % 10;
                if (figure < 1 || figure > MOST_ROPES || !told.add()) {
                    return false;
                }
                told.set(told.size - 1, 0, figure - 1);
                left /= 10;
            }
            size = told.size;
            return left == 0;
        }

        private int ropeOf(int i) {
            return told.get(size - 1 - i, 0);
        }

        /** How many of the rides can be, one behind another; minute and sill are those at their end. */
        int follow(Streets streets, int grip, int a, int t) {
            sill = a;
            minute = t;
            for (int i = 0; i < size; i++) {
                if (!ride.find(streets, ropeOf(i), grip, sill, minute) || ride.falls) {
                    return i;
                }
                sill = ride.sill;
                minute = ride.end;
            }
            return size;
        }

        /** Lists the told ropes, each once: how many. */
        int listUnlike(int[] list) {
            int unlike = 0;
            for (int i = 0; i < size && unlike < list.length; i++) {
                boolean isNew = true;
                for (int j = 0; j < unlike; j++) {
                    isNew = isNew && list[j] != ropeOf(i);
                }
                if (isNew) {
                    list[unlike] = ropeOf(i);
                    unlike++;
                }
            }
            return unlike;
        }
    }

    /**
     * The soonest way. Who may wait needs no grip: instead of swinging back he takes the rope later,
     * and who comes to a sill sooner comes no later anywhere else.
     */
    private static final class Ways {
        final int[] reached = new int[MOST_SILLS];
        final int[] next = new int[MOST_SILLS];
        int minute = 0;
        int rides = 0;

        boolean find(Streets streets, int a, int t, int b) {
            if (a < 0 || a >= MOST_SILLS || b < 0 || b >= MOST_SILLS) {
                return false;
            }
            for (int s = 0; s < MOST_SILLS; s++) {
                next[s] = TOO_LATE;
            }
            next[a] = t;
            minute = next[b];
            rides = 0;
            for (int ride = 1; ride < MOST_SILLS; ride++) {
                rideOnceMore(streets);
                if (next[b] < minute) {
                    minute = next[b];
                    rides = ride;
                }
            }
            return minute <= LAST_MINUTE;
        }

        private void rideOnceMore(Streets streets) {
            for (int s = 0; s < MOST_SILLS; s++) {
                reached[s] = next[s];
            }
            for (int k = 0; k < streets.ropes.size; k++) {
                cross(streets, k, streets.ropes.get(k, A));
                cross(streets, k, streets.ropes.get(k, B));
            }
        }

        private void cross(Streets streets, int k, int from) {
            int to = streets.otherEnd(k, from);
            if (from < 0 || from >= MOST_SILLS || to < 0 || to >= MOST_SILLS) {
                return;
            }
            if (reached[from] <= LAST_MINUTE && streets.canTake(k, from)) {
                next[to] = Math.min(next[to], streets.firstAcross(k, from, reached[from]));
            }
        }
    }

    /** Reads a text into doors, ropes and riders of its own, so that a fault changes nothing else. */
    private static final class Reader {
        private static final int FIRST_SILLS = 4;
        private static final int SILLS_ITEM = 0, DOOR_ITEM = 1, ROPE_ITEM = 2, RIDER_ITEM = 3, NO_ITEM = -1;
        private static final int END = 0, WORD = 1, NUMBER = 2, STOP = 3, WRONG = 4;
        private static final int MOST_NUMBER = 99;

        // Four numbers an item; a sill's greatest number depends on how many there are.
        private static final int ROW = 4, LAST_SILL = -1;
        private static final int[] NUMBERS = {1, 3, 4, 3};
        private static final int[] LEAST = {2, 0, 0, 0, 0, 1, 1, 0, 0, 0, 1, 0, 0, 1, 0, 0};
        private static final int[] MOST = {8, 0, 0, 0, -1, 9, 9, 0, -1, -1, 9, 17, -1, 5, 99, 0};

        final Rows doors = new Rows(MOST_SILLS, DOOR_WIDTH);
        final Rows ropes = new Rows(MOST_ROPES, ROPE_WIDTH);
        final Rows riders = new Rows(MOST_RIDERS, RIDER_WIDTH);
        private final int[] bytes = new int[MOST_BYTES];
        private int length = 0;
        private int place = 0;
        private int behind = 0;
        private int token = END;
        private int value = 0;
        private final int[] numbers = new int[ROW];

        void startAnew() {
            setSills(FIRST_SILLS);
            ropes.empty();
            riders.empty();
        }

        /** How many items the text has; or -10 less the place of its fault. */
        int read(int[] text, int textLength) {
            startAnew();
            length = Math.min(bytes.length, Math.min(text.length, textLength));
            for (int i = 0; i < length; i++) {
                bytes[i] = text[i];
            }
            behind = 0;
            int items = 0;
            nextToken();
            while (token != END && items < MOST_BYTES) {
                if (!readItem(items)) {
                    return FAULT_BASE - place;
                }
                items++;
                nextToken();
            }
            return items;
        }

        /** Whether the item that begins with the token at hand is one; if not, that token is the fault. */
        private boolean readItem(int itemsAhead) {
            int item = itemOfWord();
            if (item < 0 || item >= NUMBERS.length || !mayStand(item, itemsAhead)) {
                return false;
            }
            for (int i = 0; i < NUMBERS[item] && i < numbers.length; i++) {
                nextToken();
                if (token != NUMBER || !isNumberOf(item, i)) {
                    return false;
                }
                numbers[i] = value;
            }
            nextToken();
            if (token != STOP) {
                return false;
            }
            addItem(item);
            return true;
        }

        private int itemOfWord() {
            if (token != WORD) {
                return NO_ITEM;
            }
            if (isWord("sills")) {
                return SILLS_ITEM;
            }
            if (isWord("door")) {
                return DOOR_ITEM;
            }
            if (isWord("rope")) {
                return ROPE_ITEM;
            }
            return isWord("rider") ? RIDER_ITEM : NO_ITEM;
        }

        private boolean mayStand(int item, int itemsAhead) {
            switch (item) {
                case SILLS_ITEM: return itemsAhead == 0;
                case DOOR_ITEM: return true;
                case ROPE_ITEM: return ropes.size < MOST_ROPES;
                case RIDER_ITEM: return riders.size < MOST_RIDERS;
                default: return false;
            }
        }

        private boolean isNumberOf(int item, int i) {
            int cell = item * ROW + i;
            if (cell < 0 || cell >= LEAST.length || cell >= MOST.length) {
                return false;
            }
            if (item == ROPE_ITEM && i == B && value == numbers[A]) {
                return false;
            }
            int most = MOST[cell] == LAST_SILL ? doors.size - 1 : MOST[cell];
            return value >= LEAST[cell] && value <= most;
        }

        private void addItem(int item) {
            switch (item) {
                case SILLS_ITEM:
                    setSills(numbers[0]);
                    break;
                case DOOR_ITEM:
                    doors.set(numbers[0], TURN, numbers[1]);
                    doors.set(numbers[0], OPEN, numbers[2]);
                    break;
                case ROPE_ITEM:
                    addRope();
                    break;
                default:
                    addRider();
                    break;
            }
        }

        private void setSills(int n) {
            doors.empty();
            for (int s = 0; s < n && doors.add(); s++) {
                doors.set(s, TURN, 1);
                doors.set(s, OPEN, 1);
            }
        }

        private void addRope() {
            if (!ropes.add()) {
                return;
            }
            int k = ropes.size - 1;
            ropes.set(k, A, numbers[0]);
            ropes.set(k, B, numbers[1]);
            ropes.set(k, BEAT, numbers[2]);
            ropes.set(k, START, numbers[3]);
            ropes.set(k, STOPPED, 0);
        }

        private void addRider() {
            if (!riders.add()) {
                return;
            }
            int r = riders.size - 1;
            riders.set(r, SILL, numbers[0]);
            riders.set(r, MINUTE, 0);
            riders.set(r, GRIP, numbers[1]);
            riders.set(r, PURSE, numbers[2]);
            riders.set(r, OUT, 0);
        }

        private int byteAt(int i) {
            return i >= 0 && i < length && i < bytes.length ? bytes[i] : -1;
        }

        private static boolean isLetter(int c) {
            return c >= 'a' && c <= 'z';
        }

        private static boolean isFigure(int c) {
            return c >= '0' && c <= '9';
        }

        private void nextToken() {
            place = behind;
            while (place < length && byteAt(place) == ' ') {
                place++;
            }
            behind = place;
            int first = byteAt(place);
            if (place >= length) {
                token = END;
            } else if (isLetter(first)) {
                passWord();
            } else if (isFigure(first)) {
                passNumber();
            } else {
                token = first == ';' ? STOP : WRONG;
                behind++;
            }
        }

        private void passWord() {
            token = WORD;
            while (behind < length && isLetter(byteAt(behind))) {
                behind++;
            }
        }

        private void passNumber() {
            value = 0;
            while (behind < length && isFigure(byteAt(behind))) {
                // Beyond what a number may be its figures no longer matter, and it can't wrap around.
                value = Math.min(MOST_NUMBER + 1, value * 10 + byteAt(behind) - '0');
                behind++;
            }
            boolean zeroAhead = byteAt(place) == '0' && behind - place > 1;
            token = zeroAhead || value > MOST_NUMBER ? WRONG : NUMBER;
        }

        private boolean isWord(String word) {
            if (behind - place != word.length()) {
                return false;
            }
            for (int i = 0; i < word.length(); i++) {
                if (byteAt(place + i) != word.charAt(i)) {
                    return false;
                }
            }
            return true;
        }
    }
}
