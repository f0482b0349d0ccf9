/** What the project's tests share: says which answers are not as due, and types texts. */
final class Due {
    private final String test;
    private int calls = 0;
    private int wrong = 0;

    Due(String test) {
        this.test = test;
    }

    void is(String call, long got, long want) {
        calls++;
        if (got != want) {
            wrong++;
            System.out.println(test + ": " + call + " answered " + got + ", due is " + want);
        }
    }

    void end() {
        System.out.println(test + ": " + calls + " answers, " + wrong + " of them not as due");
        if (wrong != 0 || calls == 0) {
            System.exit(1);
        }
    }

    static void type(SwingCity x, String text) {
        for (int i = 0; i < text.length(); i += 8) {
            String part = text.substring(i, Math.min(text.length(), i + 8));
            long v = 0;
            for (int j = 0; j < part.length(); j++) {
                v = v << 8 | part.charAt(j);
            }
            x.type(v, part.length());
        }
    }

    static SwingCity city(String text) {
        SwingCity x = new SwingCity();
        type(x, text);
        x.city();
        return x;
    }

    /** What city() answers to a text on a new object. */
    static int read(String text) {
        SwingCity x = new SwingCity();
        type(x, text);
        return x.city();
    }
}
