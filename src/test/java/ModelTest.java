import java.util.Random;

/** Long runs of calls, the same ones each time, on the class and on the model: each answer must be the same. */
public final class ModelTest {
    private static final Due DUE = new Due("ModelTest");
    private static final int RUNS = 200, CALLS = 512;

    private final Random random;
    private final int run;
    private final SwingCity x = new SwingCity();
    private final Model m = new Model();

    private ModelTest(int run) {
        this.run = run;
        this.random = new Random(run);
    }

    private int from(int least, int most) {
        return least + random.nextInt(most - least + 1);
    }

    /** Mostly a number as told, now and then one beside it, seldom one far off. */
    private int near(int least, int most) {
        int dice = random.nextInt(60);
        if (dice == 0) {
            int[] far = {Integer.MIN_VALUE, Integer.MAX_VALUE, -1000, 1000};
            return far[random.nextInt(far.length)];
        }
        return dice == 1 ? least - 1 : dice == 2 ? most + 1 : from(least, Math.max(least, most));
    }

    private String cityText() {
        StringBuilder text = new StringBuilder();
        int sills = 4;
        if (random.nextInt(5) > 0) {
            sills = from(2, 8);
            text.append("sills ").append(sills).append(';');
        }
        for (int i = from(0, 4); i > 0; i--) {
            int turn = from(1, 9);
            text.append("door ").append(from(0, sills - 1)).append(' ').append(turn).append(' ')
                .append(from(1, Math.min(9, random.nextInt(8) == 0 ? 9 : turn))).append(';');
        }
        for (int i = from(1, 8); i > 0; i--) {
            int a = from(0, sills - 1);
            int b = (a + from(1, sills - 1)) % sills;
            text.append("rope ").append(a).append(' ').append(b).append(' ')
                .append(from(1, random.nextBoolean() ? 9 : 3)).append(' ').append(from(0, 17)).append(random.nextInt(3) == 0 ? " ; " : ";");
        }
        for (int i = from(1, 4); i > 0; i--) {
            text.append("rider ").append(from(0, sills - 1)).append(' ').append(from(1, 5)).append(' ')
                .append(from(0, 99)).append(';');
        }
        return text.toString();
    }

    private String spoilt(String text) {
        StringBuilder spoilt = new StringBuilder(text);
        String signs = " ;0123456789abdeloprsiz?\u00ff";
        for (int i = from(1, 3); i > 0 && spoilt.length() > 0; i--) {
            int at = random.nextInt(spoilt.length());
            char sign = signs.charAt(random.nextInt(signs.length()));
            switch (random.nextInt(4)) {
                case 0 -> spoilt.setCharAt(at, sign);
                case 1 -> spoilt.insert(at, sign);
                case 2 -> spoilt.deleteCharAt(at);
                default -> spoilt.setLength(random.nextInt(3) == 0 ? at : spoilt.length());
            }
        }
        return spoilt.toString();
    }

    private int tell(String text) {
        int calls = 0;
        for (int at = 0; at < text.length();) {
            int n = Math.min(text.length() - at, 8);
            long v = random.nextLong();
            for (int i = 0; i < n; i++) {
                v = v << 8 | text.charAt(at + i);
            }
            same("type(" + v + ", " + n + ")", x.type(v, n), m.type(v, n));
            at += n;
            calls++;
        }
        same("city()", x.city(), m.city());
        return calls + 1;
    }

    private void same(String call, long got, long want) {
        DUE.is("run " + run + ": " + call, got, want);
    }

    private int figures(int most) {
        int figures = 0;
        for (int i = from(0, most + (random.nextInt(20) == 0 ? 1 : 0)); i > 0; i--) {
            figures = figures * 10 + near(1, Math.min(8, m.count(1) + (random.nextInt(9) == 0 ? 1 : 0)));
        }
        return figures;
    }

    private int anySill() {
        return near(0, m.count(0) - 1);
    }

    private int anyRope() {
        return near(0, m.count(1) - 1);
    }

    private int anyRider() {
        return near(0, m.count(2) - 1);
    }

    private int anyMinute() {
        return random.nextInt(3) == 0 ? near(0, 999) : near(0, 60);
    }

    /** A rope that hangs where a rider is, mostly. */
    private int ropeFor(int r) {
        int k = anyRope();
        for (int i = 0; i < 6 && m.rope(k, 0) != m.rider(r, 0) && m.rope(k, 1) != m.rider(r, 0); i++) {
            k = anyRope();
        }
        return k;
    }

    private void ride() {
        int r = anyRider();
        int k = ropeFor(r);
        int t = anyMinute();
        switch (random.nextInt(12)) {
            case 0 -> {
                int n = near(1, random.nextInt(4) == 0 ? 99 : 9);
                same("waits(" + r + ", " + n + ")", x.waits(r, n), m.waits(r, n));
            }
            case 1 -> same("stop(" + k + ")", x.stop(k), m.stop(k));
            case 2 -> same("push(" + k + ", " + t + ")", x.push(k, t), m.push(k, t));
            case 3, 4 -> same("undo()", x.undo(), m.undo());
            default -> same("go(" + r + ", " + k + ")", x.go(r, k), m.go(r, k));
        }
    }

    private void way() {
        int a = anySill();
        int b = anySill();
        int t = anyMinute();
        int k = anyRope();
        int grip = near(1, 5);
        int what = near(0, 1);
        int d = near(0, 2);
        int n = near(0, random.nextInt(20) == 0 ? 4 : 2);
        switch (random.nextInt(20)) {
            case 0, 1, 2, 3, 4 -> same("soonest(" + a + ", " + t + ", " + b + ", " + what + ")",
                x.soonest(a, t, b, what), m.soonest(a, t, b, what));
            case 5 -> same("tune(" + k + ", " + a + ", " + t + ", " + b + ", " + what + ")",
                x.tune(k, a, t, b, what), m.tune(k, a, t, b, what));
            case 6, 7, 8, 9, 10 -> {
                int f = figures(6);
                same("route(" + grip + ", " + a + ", " + t + ", " + f + ", " + what + ")",
                    x.route(grip, a, t, f, what), m.route(grip, a, t, f, what));
            }
            case 11, 12, 13, 14 -> {
                int f = figures(4);
                same("drift(" + grip + ", " + a + ", " + t + ", " + f + ", " + d + ", " + what + ")",
                    x.drift(grip, a, t, f, d, what), m.drift(grip, a, t, f, d, what));
            }
            case 15, 16 -> same("saw(" + a + ", " + t + ")", x.saw(a, t), m.saw(a, t));
            case 17 -> same("forget()", x.forget(), m.forget());
            default -> same("fits(" + grip + ", " + a + ", " + n + ")", x.fits(grip, a, n), m.fits(grip, a, n));
        }
    }

    private void kind() {
        int kind = near(0, 5);
        int r = anyRider();
        int image = near(0, 1);
        switch (random.nextInt(6)) {
            case 0 -> same("keep(" + image + ")", x.keep(image), m.keep(image));
            case 1 -> same("back(" + image + ")", x.back(image), m.back(image));
            case 2 -> same("trace()", x.trace(), m.trace());
            default -> same("rate(" + kind + ", " + r + ")", x.rate(kind, r), m.rate(kind, r));
        }
    }

    private void look() {
        int what = near(0, 5);
        int s = anySill();
        int k = anyRope();
        int r = anyRider();
        int t = anyMinute();
        switch (random.nextInt(6)) {
            case 0 -> same("sill(" + s + ", " + what + ")", x.sill(s, what), m.sill(s, what));
            case 1 -> same("rope(" + k + ", " + what + ")", x.rope(k, what), m.rope(k, what));
            case 2 -> same("rider(" + r + ", " + what + ")", x.rider(r, what), m.rider(r, what));
            case 3 -> same("open(" + s + ", " + t + ")", x.open(s, t), m.open(s, t));
            case 4 -> same("meets()", x.meets(), m.meets());
            default -> same("count(" + what + ")", x.count(what), m.count(what));
        }
    }

    private void go() {
        int calls = 0;
        while (calls < CALLS - 60) {
            int dice = random.nextInt(200);
            if (calls == 0 || dice == 0) {
                calls += tell(random.nextInt(4) == 0 ? spoilt(cityText()) : cityText());
            } else if (dice == 1) {
                same("clear()", x.clear(), m.clear());
            } else if (dice == 2) {
                int n = near(1, 8);
                same("type(.., " + n + ")", x.type(0x2020202020203b20L, n), m.type(0x2020202020203b20L, n));
            } else if (dice < 80) {
                ride();
            } else if (dice < 115) {
                way();
            } else if (dice < 140) {
                kind();
            } else {
                look();
            }
            calls++;
        }
    }

    public static void main(String[] args) {
        for (int run = 0; run < RUNS; run++) {
            new ModelTest(run).go();
        }
        // Texts alone: faults of all sorts, each on a new object.
        for (int run = RUNS; run < RUNS + 3000; run++) {
            ModelTest texts = new ModelTest(run);
            texts.tell(texts.spoilt(texts.cityText()));
        }
        DUE.end();
    }
}
