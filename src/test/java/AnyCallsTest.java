import java.util.NoSuchElementException;
import java.util.Random;

/**
 * Any calls with any arguments in any state: nothing is thrown but what the document names, the same
 * calls give the same answers, and a FAULT is at a token of the text and stays if the text ends there.
 */
public final class AnyCallsTest {
    private static final int RUNS = 400;
    private static final int CALLS = 512;
    private static final long THREW = Long.MIN_VALUE;
    private static final String[] PIECES = {"seats", "stretch", "has", "rider", "dash", "past", "apart", "never", "gap",
        "fight", "worth", "rule", "sit", "drive", "row", "plain", "sick", "sleeper", "small", "not", "and", "or", "base",
        "time", "kind", "end", "tip", "seat", "stop", "who", "a", "b", "c", "r", "toolongword", "0", "1", "2", "3", "4", "9",
        "10", "99", "100", "9999", "10000", "(", ")", "<", "=", "+", "-", "*", ";", ";", ";", "%", "A", "\n", " "};
    private static final int[] EDGES = {Integer.MIN_VALUE, Integer.MIN_VALUE + 1, -99999, -3, -2, -1, 0, 1, 2, 3, 4, 5, 6, 7, 8,
        9, 10, 11, 12, 13, 16, 18, 27, 33, 60, 61, 63, 64, 255, 256, 9999, 10000, Integer.MAX_VALUE - 1, Integer.MAX_VALUE};

    private AnyCallsTest() {
    }

    public static void main(String[] args) {
        for (int run = 0; run < RUNS; run++) {
            anyCalls(run);
        }
        Random random = new Random(7);
        for (int i = 0; i < 20000; i++) {
            faultOf(drawText(random));
        }
        Due.end();
    }

    private static void anyCalls(int run) {
        Random random = new Random(run);
        MiddleSeat one = new MiddleSeat();
        MiddleSeat other = new MiddleSeat();
        for (int i = 0; i < CALLS; i++) {
            long seed = random.nextLong();
            long got = anyCall(one, new Random(seed), random.nextInt(3) == 0);
            i += feeds;
            long again = anyCall(other, new Random(seed), lastWild);
            Due.due("run " + run + ", call " + i + ", the same again", again, got);
        }
    }

    private static boolean lastWild;
    private static int feeds;

    /** One call, or the feeding of a text and its reading; the number of feeds beside it is kept. */
    private static long anyCall(MiddleSeat x, Random random, boolean wild) {
        lastWild = wild;
        feeds = 0;
        int which = random.nextInt(30);
        try {
            if (which == 0) {
                return x.rider(small(random, wild), small(random, wild));
            }
            if (which == 1) {
                return x.most(small(random, wild));
            }
            if (which == 2) {
                return x.worst();
            }
        } catch (NoSuchElementException e) {
            return THREW;
        }
        try {
            return quietCall(x, which, random, wild);
        } catch (RuntimeException e) {
            Due.due("call " + which + " threw " + e, 1, 0);
            return THREW;
        }
    }

    private static long quietCall(MiddleSeat x, int which, Random random, boolean wild) {
        int a = small(random, wild);
        int b = small(random, wild);
        int c = small(random, wild);
        int d = small(random, wild);
        boolean yes = random.nextBoolean();
        switch (which) {
            case 3: return x.feed(random.nextLong(), random.nextLong(), random.nextLong());
            case 4: return fed(x, random) + 10000L * x.journey();
            case 5: return fed(x, random) + 10000L * x.shares();
            case 6: return x.stretch(a, b);
            case 7: return x.lawful(random.nextInt(300) - 20);
            case 8: return x.worth(random.nextInt(300) - 20, a, b);
            case 9: return x.plans();
            case 10: return x.drive();
            case 11: return x.undo() ? 1 : 0;
            case 12: return x.judged(a);
            case 13: return x.evenest(a, b);
            case 14: return x.after();
            case 15: return x.pieces(a, b);
            case 16: return x.toffees(a, b);
            case 17: return x.door(a, b, c, d);
            case 18: return x.called(a, b);
            case 19: return x.fairest();
            case 20: return x.see(a, b, c, yes) ? 1 : 0;
            case 21: return x.fits(a);
            case 22: return x.years(a, b, c);
            case 23: return x.mark(a, yes) ? 1 : 0;
            case 24: return x.count(a);
            case 25: return fed(x, random) + 10000L * x.road();
            default: return x.sit(a, b);
        }
    }

    private static int small(Random random, boolean wild) {
        return wild ? EDGES[random.nextInt(EDGES.length)] : random.nextInt(6) - 1;
    }

    private static int fed(MiddleSeat x, Random random) {
        String text = random.nextInt(3) == 0 ? drawText(random) : goodText(random);
        feeds = (text.length() + 23) / 24;
        return Due.feed(x, text);
    }

    private static String goodText(Random random) {
        int how = random.nextInt(4);
        if (how == 0) {
            return "sit a 1; sit b 0; sit a 0; drive; sit b 1; drive;";
        }
        if (how == 1) {
            return "row 1 0; row 0 1;";
        }
        int seats = 2 + random.nextInt(3);
        return new Model(random, seats, random.nextInt(4), random.nextInt(seats + 1)).text.toString();
    }

    /** Pieces of the language in any order, or a good text with something changed. */
    private static String drawText(Random random) {
        StringBuilder text = new StringBuilder();
        if (random.nextInt(4) > 0) {
            text.append(goodText(random));
            for (int i = random.nextInt(3); i >= 0; i--) {
                int at = random.nextInt(text.length());
                int to = Math.min(text.length(), at + random.nextInt(4));
                text.replace(at, to, random.nextBoolean() ? PIECES[random.nextInt(PIECES.length)] : "");
                if (text.length() == 0) {
                    text.append(' ');
                }
            }
            return text.toString();
        }
        for (int i = random.nextInt(30); i >= 0; i--) {
            text.append(PIECES[random.nextInt(PIECES.length)]).append(random.nextInt(4) == 0 ? "" : " ");
        }
        return text.toString();
    }

    private static int read(String text, int how) {
        MiddleSeat x = Due.on("seats 2; stretch 1 has 1 1; rider a plain dash 1 past 0; rider b plain dash 1 past 0;");
        Due.feed(x, text);
        return how == 0 ? x.road() : how == 1 ? x.journey() : x.shares();
    }

    private static void faultOf(String text) {
        if (text.length() > 1000) {
            return;
        }
        for (int how = 0; how < 3; how++) {
            int fault = read(text, how);
            int kind = fault % 16;
            int place = fault / 16;
            if (fault != 0) {
                boolean there = kind >= 1 && kind <= 5 && place <= text.length();
                Due.due("a fault is told: " + text, there, true);
                boolean blank = place < text.length() && (text.charAt(place) == ' ' || text.charAt(place) == '\n');
                Due.due("no blank is a token: " + text, blank, false);
                int end = tokenEnd(text, place);
                Due.due("the fault stays if the text ends behind it: " + text, read(text.substring(0, end), how), fault);
                int before = read(text.substring(0, place), how);
                Due.due("what is before it is good: " + text, before == 0 || before == 1 + 16 * place, true);
            }
        }
    }

    private static int tokenEnd(String text, int place) {
        int end = place;
        while (end < text.length() && sameClass(text.charAt(place), text.charAt(end))) {
            end++;
        }
        return place < text.length() && end == place ? place + 1 : end;
    }

    private static boolean sameClass(char one, char other) {
        return one >= 'a' && one <= 'z' && other >= 'a' && other <= 'z' || one >= '0' && one <= '9' && other >= '0' && other <= '9';
    }
}
