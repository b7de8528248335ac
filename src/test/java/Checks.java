/** What the tests share: comparing answers, and putting texts onto the TAPE. */
final class Checks {
    private int wrong;
    private int asked;

    void due(String call, long want, long got) {
        asked++;
        if (got != want) {
            wrong++;
            System.out.println(call + " answered " + got + ", due is " + want);
        }
    }

    /** Ends the test: exit code 1 if an answer was not as due. */
    void close(String name) {
        System.out.println(name + ": " + (wrong == 0 ? asked + " answers are as due" : wrong + " of " + asked
                + " answers are not as due"));
        if (wrong != 0) {
            System.exit(1);
        }
    }

    /** The TAPE holds just these characters' bytes. */
    static void tape(TearPost x, String text) {
        int[] bytes = new int[text.length()];
        for (int k = 0; k < bytes.length; k++) {
            bytes[k] = text.charAt(k);
        }
        tape(x, bytes);
    }

    static void tape(TearPost x, int... bytes) {
        x.end(0);
        for (int k = 0; k < bytes.length; k += 20) {
            int[] five = new int[5];
            for (int n = 0; n < 20; n++) {
                int b = k + n < bytes.length ? bytes[k + n] & 255 : 0;
                five[n / 4] = five[n / 4] << 8 | b;
            }
            x.feed(five[0], five[1], five[2], five[3], five[4]);
        }
        x.end(bytes.length);
    }

    static int law(TearPost x, String text) {
        tape(x, text);
        return x.law();
    }

    static int orders(TearPost x, String text) {
        tape(x, text);
        return x.orders();
    }

    /** A LAW is made and put in FORCE. */
    static void rule(TearPost x, String text) {
        int number = law(x, text);
        if (number < 0) {
            throw new IllegalStateException("a test's own law can't be: " + text + ", fault at " + x.fault());
        }
        x.force(number);
    }

    /** The text so many times, with a sign between. */
    static String times(int n, String text, String between) {
        StringBuilder all = new StringBuilder();
        for (int k = 0; k < n; k++) {
            all.append(k > 0 ? between : "").append(text);
        }
        return all.toString();
    }
}
