import java.util.NoSuchElementException;

/** What the tests share: comparing answers, feeding texts, and calls that may throw. */
final class Due {
    static final long THREW = Long.MIN_VALUE;

    private static int wrong = 0;

    private Due() {
    }

    static void due(String what, long got, long want) {
        if (got != want) {
            wrong++;
            System.out.println(what + ": answered " + got + ", due is " + want);
        }
    }

    static void due(String what, boolean got, boolean want) {
        due(what, got ? 1 : 0, want ? 1 : 0);
    }

    static void end() {
        System.out.println(wrong == 0 ? "all answers are as due" : wrong + " answers are not as due");
        if (wrong != 0) {
            System.exit(1);
        }
    }

    static int feed(MiddleSeat x, String text) {
        int many = x.count(11);
        for (int from = 0; from < text.length(); from += 24) {
            many = feedAt(x, text, from);
        }
        return many;
    }

    /** One call: the 24 signs of a text from there on. */
    static int feedAt(MiddleSeat x, String text, int from) {
        return x.feed(eight(text, from), eight(text, from + 8), eight(text, from + 16));
    }

    private static long eight(String text, int from) {
        long bytes = 0;
        for (int i = from; i < from + 8; i++) {
            bytes = bytes << 8 | (i < text.length() ? text.charAt(i) : 0);
        }
        return bytes;
    }

    static int road(MiddleSeat x, String text) {
        feed(x, text);
        return x.road();
    }

    static int journey(MiddleSeat x, String text) {
        feed(x, text);
        return x.journey();
    }

    static int shares(MiddleSeat x, String text) {
        feed(x, text);
        return x.shares();
    }

    /** A new object on that road, which must be without a fault. */
    static MiddleSeat on(String text) {
        MiddleSeat x = new MiddleSeat();
        due("road " + text, road(x, text), 0);
        return x;
    }

    static long rider(MiddleSeat x, int rider, int what) {
        try {
            return x.rider(rider, what);
        } catch (NoSuchElementException e) {
            return THREW;
        }
    }

    static long most(MiddleSeat x, int what) {
        try {
            return x.most(what);
        } catch (NoSuchElementException e) {
            return THREW;
        }
    }

    static long worst(MiddleSeat x) {
        try {
            return x.worst();
        } catch (NoSuchElementException e) {
            return THREW;
        }
    }
}
