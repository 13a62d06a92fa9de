/** What the tests share: an object under test, texts on its tape, answers against those that are due. */
class Due {
    static final int NONE = -1;
    static MirrorHeirs m = new MirrorHeirs();
    private static int wrong = 0;
    private static String about = "";

    /** A new object, and what of the document is looked at from here on. */
    static void begin(String what) {
        about = what;
        m = new MirrorHeirs();
    }

    static void begin(int promise) {
        begin("promise " + promise);
    }

    static void again() {
        m = new MirrorHeirs();
    }

    static void due(String call, int got, int want) {
        if (got != want) {
            wrong++;
            System.out.println(about + ": " + call + " answered " + got + ", due is " + want);
        }
    }

    static void write(String text) {
        write(m, text);
    }

    static void write(MirrorHeirs hall, String text) {
        int length = text.length();
        hall.end(0);
        for (int at = 0; at < length; at += 20) {
            int[] n = new int[5];
            for (int i = 0; i < 20; i++) {
                n[i / 4] = n[i / 4] << 8 | (at + i < length ? text.charAt(at + i) & 255 : 0);
            }
            hall.feed(n[0], n[1], n[2], n[3], n[4]);
        }
        hall.end(length);
    }

    static int law(String text) {
        write(text);
        return m.law();
    }

    static int orders(String text) {
        write(text);
        return m.orders();
    }

    static int row(String bytes) {
        write(bytes);
        return m.row();
    }

    static void inForce(String text) {
        int number = law(text);
        due("law() of " + text, number >= 0 ? 0 : number, 0);
        m.force(number);
    }

    static void faulty(String text, int place) {
        due("law() of " + text, law(text), -6);
        due("fault() of " + text, m.fault(), place);
    }

    static void faultyOrders(String text, int place) {
        due("orders() of " + text, orders(text), -6);
        due("fault() of " + text, m.fault(), place);
    }

    /** What a heir of age 40 at 0 claims of a thing at 16 (worth 20, high 3) by a law, at hour 5. */
    static void claims(String text, int want) {
        again();
        m.heir(0, 40);
        m.thing(16, 20, 3);
        m.terms(1, 5);
        inForce(text);
        due("claim(0, 0, 0) by " + text, m.claim(0, 0, 0), want);
    }

    static void refusedWith(int by) {
        due("status()", m.status(), by);
    }

    /** The counters of refusals: by -1, -2, -3, -5, -6. */
    static void refusals(int... want) {
        for (int i = 0; i < want.length; i++) {
            due("count(" + (9 + i) + ")", m.count(9 + i), want[i]);
        }
    }

    static void finish(String allIsWell) {
        System.out.println(wrong == 0 ? allIsWell : wrong + " answers are not as due");
        if (wrong != 0) {
            System.exit(1);
        }
    }
}
