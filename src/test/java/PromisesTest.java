/** Promises 1, 2 and 6 to 28, one method each: ordinary inputs, edges and wrong ones. */
public final class PromisesTest {
    /** Three seats, 10 and 20 minutes, Bob is sick, Cat sleeps and is never at the left. */
    private static final String ROAD = "seats 3 ; stretch 10 has 5 0 3 ; stretch 20 has 2 1 4 ;"
        + " rider ann plain dash 2 past 0 ; rider bob sick dash 1 past 10 ; rider cat sleeper dash 3 past 5 ;"
        + " never cat 0 ; fight 7 ; rule one seat ; rule turn seat + 1 ;"
        + " rule stay ( seat + 2 ) * ( stop = 0 ) + seat * ( 0 < stop ) ;";

    private PromisesTest() {
    }

    public static void main(String[] args) {
        newObject();
        feed();
        roadBeginsAnew();
        journeyAndSharesReplace();
        rider();
        stretch();
        lawful();
        worth();
        worthLaw();
        plans();
        sit();
        drive();
        undo();
        judged();
        evenest();
        most();
        worst();
        after();
        pieces();
        toffees();
        door();
        called();
        fairest();
        see();
        fits();
        years();
        mark();
        count();
        Due.end();
    }

    private static void newObject() {
        MiddleSeat x = new MiddleSeat();
        int[] want = {2, 0, 0, 0, 0, 0, 0, 0, 0, 0, 0, 0};
        for (int what = 0; what < want.length; what++) {
            Due.due("new: count(" + what + ")", x.count(what), want[what]);
        }
        Due.due("new: rider", Due.rider(x, 0, 0), Due.THREW);
        Due.due("new: stretch", x.stretch(0, 0), -1);
        Due.due("new: plans", x.plans(), 1);
        Due.due("new: most", Due.most(x, -1), Due.THREW);
        Due.due("new: worst", Due.worst(x), Due.THREW);
        Due.due("new: see", x.see(0, 0, 0, true), false);
        Due.due("new: fits(2)", x.fits(2), 0);
        Due.due("new: fits(3)", x.fits(3), -1);
        Due.due("new: called", x.called(0, 0), -1);
        Due.due("new: drive", x.drive(), -1);
        Due.due("NONE", MiddleSeat.NONE, -1);
    }

    private static void feed() {
        MiddleSeat x = new MiddleSeat();
        Due.due("nothing", x.feed(0, 0, 0), 0);
        Due.due("no sign", x.feed(-1, 0x091f7f80ff0b0d00L, Long.MIN_VALUE), 0);
        Due.due("edges", x.feed(0x0a207e1f7f000000L, 0, 0), 3);
        Due.due("each of c", x.feed(0, 0, 0x4141414141414141L), 11);
        for (int i = 0; i < 41; i++) {
            x.feed(0x2020202020202020L, 0x2020202020202020L, 0x2020202020202020L);
        }
        Due.due("995", x.count(11), 995);
        Due.due("full", x.feed(0x2020202020202020L, 0x2020202020202020L, 0), 1000);
        Due.due("still full", x.feed(0x2020202020202020L, 0, 0), 1000);
        Due.due("read", x.road(), 1 + 16 * 2);
        Due.due("empty", x.count(11), 0);
        Due.due("the highest first", x.feed(0x7365617473203320L, 0x3b20202020202020L, 0), 16);
        Due.due("so it is a road", x.road(), 0);
        Due.due("with three", x.count(0), 3);
        for (int i = 0; i < 43; i++) {
            x.feed(0x6464646464646464L, 0x6464646464646464L, 0x6464646464646464L);
        }
        Due.due("1000 letters", x.road(), 1);
    }

    private static void roadBeginsAnew() {
        MiddleSeat x = Due.on(ROAD);
        Due.journey(x, "sit ann 0; drive;");
        Due.shares(x, "row 1 2 3; row 4 5 6; row 7 8 9;");
        x.sit(0, 0);
        x.sit(1, 2);
        x.sit(2, 1);
        x.drive();
        x.see(0, 0, 0, true);
        for (int mark = 0; mark < 4; mark++) {
            Due.due("laid", x.mark(mark, false), true);
        }
        Due.due("again", Due.road(x, "seats 2; rider z small dash 4 past 77;"), 0);
        int[] want = {2, 0, 1, 0, 0, 0, 0, 0, 0, 0, 0, 0};
        for (int what = 0; what < want.length; what++) {
            Due.due("anew: count(" + what + ")", x.count(what), want[what]);
        }
        Due.due("anew: kind", Due.rider(x, 0, 0), 3);
        Due.due("anew: seat", Due.rider(x, 0, 3), -1);
        Due.due("anew: total", Due.rider(x, 0, 4), 77);
        for (int mark = 0; mark < 4; mark++) {
            Due.due("anew: mark " + mark, x.mark(mark, true), false);
        }
        Due.due("anew: undo", x.undo(), false);
        Due.due("anew: plans", x.plans(), 2);
        Due.due("anew: lawful", x.lawful(0), 1);
        Due.due("anew: even", x.evenest(0, 0), 0);
        Due.due("anew: third", Due.road(x, "seats 2; stretch 3 has 1 2; rider a plain dash 1 past 0;"), 0);
        Due.due("anew: worth without law", x.worth(1, 0, 0), 6);
        Due.due("anew: evenest plan", x.evenest(0, 2), 0);
    }

    private static void journeyAndSharesReplace() {
        MiddleSeat x = Due.on(ROAD);
        Due.due("five lines", Due.journey(x, "sit ann 0; sit bob 2; sit cat 1; drive; drive;"), 0);
        Due.due("they are", x.count(6), 5);
        Due.due("one line", Due.journey(x, "drive;"), 0);
        Due.due("it is", x.count(6), 1);
        Due.due("no line", Due.journey(x, ""), 0);
        Due.due("they are none", x.count(6), 0);
        x.sit(0, 1);
        Due.due("shares", Due.shares(x, "row 10 0 0; row 0 10 0; row 0 0 10;"), 0);
        Due.due("one piece", x.pieces(0, -1), 1);
        Due.due("other shares", Due.shares(x, "row 0 10 0; row 10 0 0; row 0 0 10;"), 0);
        Due.due("another piece", x.pieces(0, 0), 18);
        Due.due("nothing else is touched", x.count(10), 1);
    }

    private static void rider() {
        MiddleSeat x = Due.on(ROAD);
        int[][] want = {{0, 2, 0, -1, 0}, {1, 1, 10, -1, 10}, {2, 3, 5, -1, 5}};
        for (int rider = 0; rider < 3; rider++) {
            for (int what = 0; what < 5; what++) {
                Due.due("rider(" + rider + ", " + what + ")", Due.rider(x, rider, what), want[rider][what]);
            }
        }
        Due.due("what 5", Due.rider(x, 0, 5), -1);
        Due.due("what -1", Due.rider(x, 0, -1), -1);
        Due.due("rider 3", Due.rider(x, 3, 0), Due.THREW);
        Due.due("rider -1", Due.rider(x, -1, 9), Due.THREW);
        Due.due("rider least", Due.rider(x, Integer.MIN_VALUE, 0), Due.THREW);
        Due.due("rider greatest", Due.rider(x, Integer.MAX_VALUE, 0), Due.THREW);
        x.sit(2, 0);
        Due.due("seat now", Due.rider(x, 2, 3), 0);
    }

    private static void stretch() {
        MiddleSeat x = Due.on(ROAD);
        int[][] want = {{10, 5, 0, 3}, {20, 2, 1, 4}};
        for (int stretch = 0; stretch < 2; stretch++) {
            for (int what = 0; what < 4; what++) {
                Due.due("stretch(" + stretch + ", " + what + ")", x.stretch(stretch, what), want[stretch][what]);
            }
        }
        int[][] none = {{0, 4}, {0, -1}, {2, 0}, {-1, 0}, {4, 4}, {0, Integer.MAX_VALUE}, {Integer.MAX_VALUE, 0}};
        for (int[] one : none) {
            Due.due("stretch(" + one[0] + ", " + one[1] + ")", x.stretch(one[0], one[1]), -1);
        }
    }

    private static void lawful() {
        MiddleSeat x = Due.on(ROAD);
        // Digits: ann, bob, cat. Bob must be at an end, Cat not on seat 0.
        int[][] want = {{6, 0}, {9, 1}, {18, 1}, {24, 0}, {33, 1}, {36, 0}, {0, -1}, {7, -1}, {21, -1}, {-1, -1},
            {64, -1}, {73, -1}, {Integer.MAX_VALUE, -1}, {Integer.MIN_VALUE, -1}};
        for (int[] one : want) {
            Due.due("lawful(" + one[0] + ")", x.lawful(one[0]), one[1]);
        }
        MiddleSeat apart = Due.on("seats 4; rider a plain dash 1 past 0; rider b plain dash 1 past 0; apart b a;");
        int[][] pairs = {{1, 0}, {2, 1}, {3, 1}, {4, 0}, {6, 0}, {7, 1}, {14, 0}, {9, 0}, {5, -1}, {16, -1}};
        for (int[] one : pairs) {
            Due.due("apart lawful(" + one[0] + ")", apart.lawful(one[0]), one[1]);
        }
        MiddleSeat four = Due.on("seats 4; rider a sick dash 1 past 0;");
        for (int seat = 0; seat < 4; seat++) {
            Due.due("sick on " + seat, four.lawful(seat), seat == 0 || seat == 3 ? 1 : 0);
        }
    }

    private static void worth() {
        MiddleSeat x = Due.on(ROAD);
        Due.due("ann on 0", x.worth(9, 0, 0), 50);
        Due.due("bob on 2", x.worth(9, 1, 1), 80);
        Due.due("unlawful, too", x.worth(6, 1, 1), 20);
        int[][] none = {{9, 3, 0}, {9, -1, 0}, {9, 0, 2}, {9, 0, -1}, {0, 0, 0}, {64, 0, 0}, {-1, 0, 0}};
        for (int[] one : none) {
            Due.due("worth of none", x.worth(one[0], one[1], one[2]), -1);
        }
    }

    private static int worthBy(String law, int plan, int rider) {
        MiddleSeat x = Due.on("seats 4; stretch 11 has 1 2 3 4; rider a plain dash 1 past 0; rider b sick dash 1 past 0;"
            + "rider c sleeper dash 1 past 0; rider d sleeper dash 1 past 0;" + law);
        return x.worth(plan, rider, 0);
    }

    private static void worthLaw() {
        int straight = 0 * 64 + 1 * 16 + 2 * 4 + 3;
        Due.due("base * time", worthBy("", straight, 2), 33);
        Due.due("base", worthBy("worth base;", straight, 1), 2);
        Due.due("time", worthBy("worth time;", straight, 1), 11);
        for (int rider = 0; rider < 4; rider++) {
            Due.due("kind of " + rider, worthBy("worth kind;", straight, rider), Math.min(rider, 2));
            Due.due("end of " + rider, worthBy("worth end;", straight, rider), rider % 3 == 0 ? 1 : 0);
        }
        Due.due("tip none", worthBy("worth tip;", straight, 0), 0);
        Due.due("tip one", worthBy("worth tip;", straight, 1), 1);
        Due.due("tip not oneself", worthBy("worth tip;", straight, 2), 1);
        Due.due("tip two", worthBy("worth tip;", 1 * 64 + 3 * 16 + 0 * 4 + 2, 0), 2);
        Due.due("tip over a gap", worthBy("gap 1; worth tip;", 1 * 64 + 3 * 16 + 0 * 4 + 2, 0), 1);
        Due.due("tip over gaps", worthBy("gap 1; gap 0; worth tip;", 1 * 64 + 3 * 16 + 0 * 4 + 2, 0), 0);
        String[] laws = {"1 + 2 * 3", "( 1 + 2 ) * 3", "9 - 3 - 2", "2 * 3 - 4 * 1", "1 or 0 and 0", "0 and 0 or 1",
            "5 and 7", "5 or 0", "0 or 0", "not 5", "not 0", "not 0 + 5", "not not 7", "1 < 2", "2 < 1", "2 < 2", "2 = 2",
            "1 + 1 = 2", "1 < 2 and 3 = 3", "3 - 5 < 0", "0 - 1", "1000", "999", "998 + 1", "9999 * 9999 * 9999",
            "not ( 1 = 2 ) * 8", "1 = 1 or 1 < 0 and 0", "0 - 1 and 1", "9999 * 9999 * 43 + 3861"};
        int[] due = {7, 9, 4, 2, 0, 1, 1, 1, 0, 0, 1, 6, 1, 1, 0, 0, 1, 1, 1, 1, 0, 999, 999, 999, 0, 8, 0, 1, 0};
        due[24] = clamp(9999 * 9999 * 9999);
        due[28] = clamp(9999 * 9999 * 43 + 3861);
        for (int i = 0; i < laws.length; i++) {
            Due.due("worth " + laws[i], worthBy("worth " + laws[i] + ";", straight, 0), due[i]);
        }
    }

    private static int clamp(int value) {
        return value < 0 ? 0 : value > 999 ? 999 : value;
    }

    private static void plans() {
        Due.due("three lawful", Due.on(ROAD).plans(), 3);
        Due.due("nobody", Due.on("seats 4; stretch 1 has 1 1 1 1;").plans(), 1);
        Due.due("one", Due.on("seats 4; rider a plain dash 1 past 0;").plans(), 4);
        String two = "seats 4; rider a plain dash 1 past 0; rider b plain dash 1 past 0;";
        Due.due("two", Due.on(two).plans(), 12);
        Due.due("two apart", Due.on(two + "apart a b;").plans(), 6);
        Due.due("two apart with a gap", Due.on(two + "apart a b; gap 1;").plans(), 8);
        String four = two + "rider c plain dash 1 past 0; rider d plain dash 1 past 0;";
        Due.due("four", Due.on(four).plans(), 24);
        Due.due("never anywhere", Due.on(four + "never a 0; never a 1; never a 2; never a 3;").plans(), 0);
    }

    private static void sit() {
        MiddleSeat x = Due.on(ROAD);
        int[][] none = {{3, 0}, {-1, 0}, {0, 3}, {0, -1}, {Integer.MAX_VALUE, 0}, {0, Integer.MAX_VALUE}};
        for (int[] one : none) {
            Due.due("sit of none", x.sit(one[0], one[1]), -2);
        }
        Due.due("nothing done", x.count(10), 0);
        Due.due("free", x.sit(0, 1), -1);
        Due.due("he sits there", x.sit(0, 1), -2);
        Due.due("he had none", x.sit(1, 1), 0);
        Due.due("so he who sat there has none", Due.rider(x, 0, 3), -1);
        Due.due("and one sits", x.count(5), 1);
        Due.due("where he never does", x.sit(2, 0), -1);
        Due.due("swap", x.sit(2, 1), 1);
        Due.due("his", Due.rider(x, 1, 3), 0);
        Due.due("move to a free one", x.sit(1, 2), -1);
        Due.due("two sit", x.count(5), 2);
        Due.due("done", x.count(10), 5);
    }

    private static void drive() {
        MiddleSeat x = Due.on(ROAD);
        Due.due("nobody sits", x.drive(), -1);
        x.sit(0, 0);
        x.sit(1, 2);
        Due.due("one doesn't", x.drive(), -1);
        x.sit(2, 1);
        Due.due("first", x.drive(), 1);
        Due.due("no fight at first", Due.rider(x, 0, 4), 50);
        Due.due("bob", Due.rider(x, 1, 4), 40);
        x.sit(1, 1);
        Due.due("unlawful", x.drive(), -1);
        x.sit(1, 2);
        x.sit(0, 1);
        x.sit(0, 0);
        Due.due("second", x.drive(), 2);
        Due.due("there and back is no change", Due.rider(x, 0, 4), 90);
        Due.due("home", x.drive(), -1);
        Due.due("home is behind the last", x.count(4), 2);
        Due.due("one may sit at home", x.sit(0, 1), 2);
        MiddleSeat fight = Due.on("seats 2; stretch 1 has 0 0; stretch 1 has 0 0; rider a plain dash 1 past 5; fight 99;");
        fight.sit(0, 0);
        fight.drive();
        fight.sit(0, 1);
        Due.due("a change", fight.drive(), 2);
        Due.due("below 0", Due.rider(fight, 0, 4), 5 - 99);
        MiddleSeat nobody = Due.on("seats 2; stretch 1 has 1 1;");
        Due.due("nobody drives", nobody.drive(), 1);
        Due.due("and is home", nobody.drive(), -1);
        Due.due("no stretch", Due.on("seats 2;").drive(), -1);
    }

    private static void undo() {
        MiddleSeat x = Due.on(ROAD);
        Due.due("nothing", x.undo(), false);
        x.sit(0, 0);
        x.sit(1, 2);
        x.sit(2, 1);
        x.drive();
        x.sit(0, 1);
        x.sit(1, 0);
        x.drive();
        Due.due("with fights", Due.rider(x, 0, 4), 63);
        Due.due("back", x.undo(), true);
        Due.due("on the way", x.count(4), 1);
        Due.due("again", x.drive(), 2);
        Due.due("with the same fights", Due.rider(x, 0, 4), 63);
        for (int i = 6; i >= 0; i--) {
            Due.due("undo " + i, x.undo(), true);
            Due.due("left", x.count(10), i);
        }
        Due.due("begin", x.count(4), 0);
        Due.due("nobody", x.count(5), 0);
        Due.due("total", Due.rider(x, 1, 4), 10);
        Due.due("no more", x.undo(), false);
        for (int i = 0; i < 40; i++) {
            x.sit(0, i % 3);
        }
        Due.due("sixteen", x.count(10), 16);
        for (int i = 39; i > 23; i--) {
            Due.due("at " + i, Due.rider(x, 0, 3), i % 3);
            Due.due("undo at " + i, x.undo(), true);
        }
        Due.due("the oldest", Due.rider(x, 0, 3), 23 % 3);
        Due.due("no further", x.undo(), false);
        x.see(0, 0, 0, true);
        x.sit(1, 0);
        x.see(0, 0, 1, true);
        x.undo();
        Due.due("what was seen stays", x.count(8), 2);
    }

    private static void judged() {
        MiddleSeat x = Due.on(ROAD);
        Due.due("no journey: all can", x.judged(-1), -1);
        Due.due("no journey: past", x.judged(1), 10);
        String text = "sit ann 0; sit bob 2; drive; sit cat 1; drive; sit cat 1; sit ann 1; drive; sit bob 0; drive; drive;";
        Due.due("journey", Due.journey(x, text), 0);
        Due.due("the first that can't", x.judged(-1), 2);
        Due.due("ann", x.judged(0), 63);
        Due.due("bob", x.judged(1), 73);
        Due.due("cat", x.judged(2), 78);
        Due.due("rider 3", x.judged(3), -99999);
        Due.due("rider -2", x.judged(-2), -99999);
        Due.due("rider greatest", x.judged(Integer.MAX_VALUE), -99999);
        Due.due("by hand nothing is done", x.count(5) + x.count(4) + x.count(10), 0);
        x.sit(0, 2);
        Due.due("what is done by hand is aside", x.judged(2), 78);
        Due.journey(x, "sit ann 0; sit bob 2; sit cat 1; sit cat 1; drive; drive;");
        Due.due("all can", x.judged(-1), -1);
        Due.due("to the end", x.judged(0), 90);
        Due.journey(x, "sit ann 0; sit bob 2; sit cat 1; drive; drive; drive;");
        Due.due("not from home", x.judged(-1), 5);
    }

    private static void evenest() {
        MiddleSeat x = Due.on(ROAD);
        int[][] want = {{12, 15, 3, 9, 18}, {3, 15, 3, 9, 18}, {2, 52, 2, 18}, {0, 85, 0, 33, 33}};
        for (int[] one : want) {
            for (int what = 0; what + 1 < one.length; what++) {
                Due.due("evenest(" + one[0] + ", " + what + ")", x.evenest(one[0], what), one[what + 1]);
            }
        }
        int[][] none = {{-1, 0}, {13, 0}, {12, 4}, {12, -1}, {12, Integer.MAX_VALUE}, {Integer.MIN_VALUE, 0}};
        for (int[] one : none) {
            Due.due("evenest of none", x.evenest(one[0], one[1]), -1);
        }
        Due.due("no rider", Due.on("seats 2; stretch 1 has 1 1;").evenest(12, 0), -1);
        String sick = "seats 3; stretch 1 has 1 1 1; rider a sick dash 1 past 0; never a 0; never a 2;";
        Due.due("no plan", Due.on(sick).evenest(12, 0), -1);
        MiddleSeat still = Due.on("seats 3; rider a plain dash 1 past 9; rider b plain dash 1 past 2;");
        Due.due("no stretch: spread", still.evenest(0, 0), 7);
        Due.due("no stretch: moves", still.evenest(0, 1), 0);
        Due.due("no stretch: plan", still.evenest(0, 2), -1);
        MiddleSeat alone = Due.on("seats 2; stretch 5 has 1 9; stretch 5 has 9 1; rider a plain dash 1 past 9;");
        Due.due("alone: even", alone.evenest(12, 0), 0);
        Due.due("alone: fewest moves", alone.evenest(12, 1), 0);
        Due.due("alone: the first", alone.evenest(12, 2) * 10 + alone.evenest(12, 3), 0);
    }

    private static void most() {
        MiddleSeat x = Due.on(ROAD);
        Due.due("the sum", Due.most(x, -1), 235);
        Due.due("first plan", Due.most(x, 0), 9);
        Due.due("second plan", Due.most(x, 1), 9);
        Due.due("no stretch 2", Due.most(x, 2), Due.THREW);
        Due.due("what -2", Due.most(x, -2), Due.THREW);
        Due.due("what greatest", Due.most(x, Integer.MAX_VALUE), Due.THREW);
        Due.due("no rider", Due.most(Due.on("seats 2; stretch 1 has 1 1;"), -1), Due.THREW);
        Due.due("no plan", Due.most(Due.on("seats 2; stretch 1 has 1 1; rider a plain dash 1 past 0; never a 0; never a 1;"), -1), Due.THREW);
        MiddleSeat still = Due.on("seats 2; rider a plain dash 1 past 5; rider b plain dash 1 past 6; apart a b;");
        Due.due("no stretch: past", Due.most(still, -1), 11);
        Due.due("no stretch: plan", Due.most(still, 0), Due.THREW);
        String swap = "seats 2; stretch 10 has 1 5; stretch 10 has 5 1; rider a plain dash 1 past 0; fight ";
        Due.due("worth a fight", Due.most(Due.on(swap + "39;"), -1), 61);
        Due.due("a tie: the first", Due.most(Due.on(swap + "40;"), 0), 0);
        Due.due("not worth a fight", Due.most(Due.on(swap + "41;"), -1), 60);
    }

    private static void worst() {
        Due.due("worst", Due.worst(Due.on(ROAD)), 63);
        Due.due("no rider", Due.worst(Due.on("seats 2; stretch 1 has 1 1;")), Due.THREW);
        Due.due("no plan", Due.worst(Due.on("seats 2; stretch 1 has 1 1; rider a plain dash 1 past 0; never a 0; never a 1;")), Due.THREW);
        Due.due("no stretch", Due.worst(Due.on("seats 2; rider a plain dash 1 past 5; rider b plain dash 1 past 4;")), 4);
        String two = "seats 2; stretch 10 has 0 9; stretch 10 has 0 9; rider a plain dash 1 past 0; rider b plain dash 1 past 0;";
        Due.due("in turn", Due.worst(Due.on(two)), 90);
        Due.due("in turn with a fight", Due.worst(Due.on(two + "fight 99;")), 0);
    }

    private static void after() {
        String two = "seats 2; stretch 10 has 0 1; rider a plain dash 1 past 0; rider b plain dash 1 past ";
        Due.due("at once", Due.on(two + "10;").after(), 1);
        Due.due("never at once", Due.on(two + "0;").after(), 2);
        Due.due("twice", Due.on(two + "20;").after(), 2);
        Due.due("twenty", Due.on(two + "200;").after(), 20);
        Due.due("beyond twenty", Due.on(two + "210;").after(), -1);
        Due.due("never", Due.on(two + "5;").after(), -1);
        Due.due("no rider", Due.on("seats 2; stretch 1 has 1 1;").after(), -1);
        Due.due("no plan", Due.on(two + "0; never a 0; never a 1;").after(), -1);
        Due.due("no stretch, even", Due.on("seats 2; rider a plain dash 1 past 5; rider b plain dash 1 past 5;").after(), 1);
        Due.due("no stretch, not even", Due.on("seats 2; rider a plain dash 1 past 5; rider b plain dash 1 past 6;").after(), -1);
        MiddleSeat x = Due.on(two + "0;");
        Due.due("evenest before", x.evenest(12, 0), 10);
        Due.due("after", x.after(), 2);
        Due.due("evenest behind it", x.evenest(12, 0), 10);
        Due.due("after again", x.after(), 2);
        Due.due("by hand", x.sit(0, 0) + x.sit(1, 1), -2);
        x.drive();
        Due.due("by hand it is aside", x.after(), 2);
    }

    private static void pieces() {
        MiddleSeat x = Due.on(ROAD);
        Due.due("no shares", x.pieces(0, -1), -2);
        Due.due("shares", Due.shares(x, "row 5 2 3 ; row 4 3 3 ; row 1 5 4 ;"), 0);
        int[] want = {5, 6, 3, 9, 2, 18, 1, 24, 1, 33, 3, -2, -2};
        for (int what = -1; what + 1 < want.length; what++) {
            Due.due("pieces(0, " + what + ")", x.pieces(0, what), want[what + 1]);
        }
        Due.due("other minutes", x.pieces(1, -1), -2);
        Due.due("no stretch 2", x.pieces(2, -1), -2);
        Due.due("no stretch -1", x.pieces(-1, -1), -2);
        Due.due("what -2", x.pieces(0, -2), -2);
        Due.due("what least", x.pieces(0, Integer.MIN_VALUE), -2);
        Due.due("what greatest", x.pieces(0, Integer.MAX_VALUE), -2);
        Due.shares(x, "row 10 0 0 ; row 5 5 0 ; row 0 0 10 ;");
        Due.due("rows only", x.pieces(0, -1), -2);
        Due.shares(x, "row 10 0 0 ; row 0 10 1 ; row 0 0 9 ;");
        Due.due("columns only", x.pieces(0, -1), -2);
        for (String rows : new String[] {"row 9 0 0 ; row 0 10 0 ; row 0 0 10 ;", "row 10 0 0 ; row 0 10 0 ; row 0 0 9 ;"}) {
            Due.shares(x, rows);
            Due.due("one too few of " + rows, x.pieces(0, -1), -2);
        }
        MiddleSeat fewer = Due.on("seats 3; stretch 2 has 1 1 1; rider a plain dash 1 past 0; rider b plain dash 1 past 0;");
        Due.shares(fewer, "row 2 0 0; row 0 2 0;");
        Due.due("fewer riders", fewer.pieces(0, -1), -2);
    }

    private static void toffees() {
        MiddleSeat x = Due.on(ROAD);
        int[] want = {6, 50, 0, 30};
        for (int what = -1; what < 3; what++) {
            Due.due("toffees(0, " + what + ")", x.toffees(0, what), want[what + 1]);
        }
        Due.due("what 3", x.toffees(0, 3), -2);
        Due.due("what -2", x.toffees(0, -2), -2);
        Due.due("no stretch 2", x.toffees(2, -1), -2);
        Due.due("no stretch -1", x.toffees(-1, -1), -2);
        Due.due("fewer riders", Due.on("seats 2; stretch 1 has 1 1; rider a plain dash 1 past 0;").toffees(0, -1), -2);
        // a: 4 8, b: 4 4: a has the right one, and its price is no more than nothing.
        MiddleSeat two = Due.on("seats 2; stretch 4 has 1 2; rider a plain dash 1 past 0; rider b small dash 1 past 0;"
            + "apart a b; never a 1; worth 4 + (kind = 0) * (base - 1) * 4 - tip * 100;");
        Due.due("laws aside", two.toffees(0, -1), 4);
        Due.due("price left", two.toffees(0, 0), 0);
        Due.due("price right", two.toffees(0, 1), 0);
        // Both would rather sit at the right: a 1 10, b 1 7.
        MiddleSeat both = Due.on("seats 2; stretch 1 has 1 9; rider a plain dash 1 past 0; rider b small dash 1 past 0;"
            + "worth base + (kind = 0) * (base = 9) - (kind = 3) * (base = 9) * 2;");
        Due.due("who gets more", both.toffees(0, -1), 4);
        Due.due("left", both.toffees(0, 0), 0);
        Due.due("right", both.toffees(0, 1), 6);
        MiddleSeat sleepers = Due.on("seats 2; stretch 2 has 1 3; rider a sleeper dash 1 past 0; rider b sleeper dash 1 past 0;"
            + "worth base * time - tip * 100;");
        Due.due("tip aside", sleepers.toffees(0, 1), 4);
    }

    private static void fraction(String what, MiddleSeat x, int rider, int seat, long above, long below) {
        Due.due(what + " above", x.door(0, rider, seat, 0), above);
        Due.due(what + " below", x.door(0, rider, seat, 1), below);
    }

    private static void door() {
        MiddleSeat x = Due.on(ROAD);
        fraction("ann left", x, 0, 0, 2, 3);
        fraction("bob left", x, 1, 0, 1, 3);
        fraction("cat left", x, 2, 0, 0, 1);
        fraction("cat right", x, 2, 2, 17, 20);
        fraction("bob right", x, 1, 2, 1, 12);
        fraction("bob in the middle", x, 1, 1, 0, 1);
        int[][] none = {{2, 0, 0, 0}, {-1, 0, 0, 0}, {0, 3, 0, 0}, {0, -1, 0, 0}, {0, 0, 3, 0}, {0, 0, -1, 0}, {0, 0, 0, 2}, {0, 0, 0, -1}};
        for (int[] one : none) {
            Due.due("door of none", x.door(one[0], one[1], one[2], one[3]), -1);
        }
        MiddleSeat alone = Due.on("seats 2; stretch 1 has 4 4; rider a plain dash 9 past 0;");
        fraction("alone, of equal ones the first", alone, 0, 0, 1, 1);
        fraction("alone, not the second", alone, 0, 1, 0, 1);
        MiddleSeat two = Due.on("seats 2; stretch 1 has 4 5; rider a plain dash 9 past 0; rider b plain dash 6 past 0; apart a b;");
        fraction("lowest terms", two, 0, 1, 3, 5);
        fraction("the other", two, 0, 0, 2, 5);
        MiddleSeat shut = Due.on("seats 2; stretch 1 has 4 5; rider a plain dash 1 past 0; rider b plain dash 2 past 0; never b 0;");
        fraction("b has none if a was first", shut, 1, 1, 2, 3);
        fraction("a keeps the left then", shut, 0, 0, 2, 3);
    }

    private static void called() {
        MiddleSeat x = Due.on(ROAD);
        Due.due("one", x.called(0, 0), -1);
        Due.due("turn", x.called(1, 0), -1);
        Due.due("stay", x.called(2, 0), 85);
        Due.due("stay's first", x.called(2, 1), 33);
        Due.due("stay's second", x.called(2, 2), 33);
        int[][] none = {{2, 3}, {2, -1}, {3, 0}, {-1, 0}, {Integer.MAX_VALUE, 0}, {2, Integer.MAX_VALUE}};
        for (int[] each : none) {
            Due.due("called of none", x.called(each[0], each[1]), -1);
        }
        String two = "seats 3; stretch 10 has 1 2 3; stretch 10 has 1 2 3; stretch 10 has 1 2 3;"
            + "rider a plain dash 1 past 0; rider b plain dash 1 past 0; fight 5;";
        MiddleSeat y = Due.on(two + "rule back seat - 1; rule same 7; rule num who * 2 - 4; rule later seat + (stop = 2) * (who = 1);");
        // From numbers 0, 1: to 2, 0; 1, 2; 0, 1, each time two fights.
        Due.due("back 0", y.called(0, 1), 8);
        Due.due("back 1", y.called(0, 2), 6);
        Due.due("back 2", y.called(0, 3), 1);
        Due.due("back's spread", y.called(0, 0), 0);
        Due.due("all on one seat", y.called(1, 0), -1);
        Due.due("below 0, by the seats", y.called(2, 1), 2 * 4 + 1);
        Due.due("who's spread", y.called(2, 0), 30);
        Due.due("stop 1", y.called(3, 2), 1);
        Due.due("stop 2", y.called(3, 3), 2);
        Due.due("later's spread", y.called(3, 0), (20 + 20 + 30 - 5) - 30);
        Due.due("no rider", Due.on("seats 2; stretch 1 has 1 1; rule r 1;").called(0, 0), -1);
        MiddleSeat still = Due.on("seats 2; rider a plain dash 1 past 5; rider b plain dash 1 past 7; rule r 1;");
        Due.due("no stretch", still.called(0, 0), 2);
        Due.due("no stretch, no plan", still.called(0, 1), -1);
    }

    private static void fairest() {
        Due.due("the only journey", Due.on(ROAD).fairest(), 2);
        String two = "seats 2; stretch 10 has 1 2; stretch 10 has 1 2; rider a plain dash 1 past 0; rider b plain dash 1 past 0;";
        Due.due("turns are fairer", Due.on(two + "rule stay seat; rule turn seat + 1; rule turned 3 - seat;").fairest(), 1);
        Due.due("of equal ones the first", Due.on(two + "rule stay seat; rule too who; rule none 1;").fairest(), 0);
        Due.due("no journey", Due.on(two + "rule none 1;").fairest(), -1);
        Due.due("no rule", Due.on(two).fairest(), -1);
        Due.due("no rider", Due.on("seats 2; stretch 1 has 1 1; rule r 1;").fairest(), -1);
        Due.due("fights count", Due.on("seats 3; stretch 10 has 1 2 1; stretch 10 has 2 1 1; rider a plain dash 1 past 0;"
            + "rider b plain dash 1 past 10; fight 20; rule stay seat + 1; rule move seat + (who = 0) * (stop = 1) * 2;").fairest(), 0);
    }

    private static void see() {
        MiddleSeat x = Due.on(ROAD);
        int[][] none = {{3, 0, 0}, {-1, 0, 0}, {0, 3, 0}, {0, -1, 0}, {0, 0, 2}, {0, 0, -1}, {Integer.MAX_VALUE, 0, 0}};
        for (int[] one : none) {
            Due.due("see none", x.see(one[0], one[1], one[2], true), false);
        }
        Due.due("nothing seen", x.count(8), 0);
        for (int i = 0; i < 10; i++) {
            Due.due("see " + i, x.see(0, 0, 0, i % 2 == 0), true);
        }
        Due.due("ten", x.count(8), 10);
        Due.due("eleven", x.see(0, 0, 0, true), false);
        Due.due("still ten", x.count(8), 10);
    }

    private static void fits() {
        MiddleSeat x = Due.on(ROAD);
        Due.due("all", x.fits(0), 9);
        Due.due("the first", x.fits(3) * 100 + x.fits(4), 909);
        x.see(0, 1, 1, true);
        Due.due("three", x.fits(0), 3);
        Due.due("in all", x.fits(1), 0);
        Due.due("in none", x.fits(2), 0);
        x.see(1, 0, 0, false);
        Due.due("one", x.fits(0), 1);
        Due.due("changed", x.fits(1), 1);
        Due.due("unchanged", x.fits(2), 0);
        Due.due("what 5", x.fits(5), -1);
        Due.due("what -1", x.fits(-1), -1);
        Due.due("what greatest", x.fits(Integer.MAX_VALUE), -1);
        x.see(0, 1, 1, false);
        Due.due("none", x.fits(0), 0);
        for (int what = 1; what < 5; what++) {
            Due.due("none: " + what, x.fits(what), -1);
        }
        MiddleSeat stops = Due.on("seats 2; stretch 1 has 1 1; stretch 1 has 1 1; stretch 1 has 1 1; stretch 1 has 1 1; rider a plain dash 1 past 0;");
        Due.due("sixteen", stops.fits(0), 16);
        stops.see(0, 0, 0, true);
        stops.see(0, 1, 1, true);
        stops.see(0, 0, 2, false);
        Due.due("two", stops.fits(0), 2);
        Due.due("at stop 0", stops.fits(1), 1);
        Due.due("not at stop 1", stops.fits(2), 2);
        Due.due("the fourth is free", stops.fits(6), 0);
        MiddleSeat nobody = Due.on("seats 2; stretch 1 has 1 1; stretch 1 has 1 1; stretch 1 has 1 1;");
        Due.due("nobody: one", nobody.fits(0), 1);
        Due.due("nobody changed", nobody.fits(1), 0);
        Due.due("nobody at no stop", nobody.fits(2), 3);
        Due.due("nobody's plan", nobody.fits(5), 0);
        Due.due("no plan", Due.on("seats 2; stretch 1 has 1 1; rider a plain dash 1 past 0; never a 0; never a 1;").fits(0), 0);
    }

    private static void years() {
        MiddleSeat x = Due.on(ROAD);
        int[][] none = {{-1, 1, 0}, {10000, 1, 0}, {0, 0, 0}, {0, 61, 0}, {0, 1, 2}, {0, 1, -1}};
        for (int[] one : none) {
            Due.due("years of none", x.years(one[0], one[1], one[2]), -1);
        }
        Due.due("no rider", Due.on("seats 2; stretch 1 has 1 1;").years(0, 1, 0), -1);
        // Seed 1: g 1103527590, 16838 % 2 = 0: a first. Then g 377401575, 5758 % 1 = 0: b.
        MiddleSeat two = Due.on("seats 2; stretch 10 has 1 2; rider a plain dash 1 past 0; rider b plain dash 1 past 3;");
        Due.due("a has the better", two.years(1, 1, 0), 20 - 13);
        Due.due("nobody without", two.years(1, 1, 1), 0);
        // The third draw: g 662824084, 10113 % 2 = 1: b first on the second journey.
        Due.due("b the next time", two.years(1, 2, 0), 3);
        MiddleSeat shut = Due.on("seats 2; stretch 10 has 1 2; rider a plain dash 1 past 0; rider b plain dash 1 past 3; never b 0;");
        Due.due("b has none", shut.years(1, 1, 1), 1);
        Due.due("and nothing more", shut.years(1, 1, 0), 17);
        Due.due("once of two", shut.years(1, 2, 1), 1);
        Due.due("with both", shut.years(1, 2, 0), (20 + 10) - (3 + 20));
        MiddleSeat ends = Due.on("seats 2; stretch 1 has 1 1; rider a plain dash 1 past 8; rider b plain dash 1 past 3;"
            + "never a 0; never a 1; never b 0; never b 1; fight 50;");
        Due.due("two without, each time", ends.years(9999, 60, 1), 120);
        Due.due("past stays", ends.years(9999, 60, 0), 5);
        MiddleSeat still = Due.on("seats 2; rider a plain dash 1 past 8; rider b plain dash 1 past 3;");
        Due.due("no stretch", still.years(0, 60, 0), 5);
        Due.due("no stretch, none", still.years(0, 60, 1), 0);
        MiddleSeat tips = Due.on("seats 2; stretch 1 has 1 2; rider a plain dash 1 past 0; rider b sleeper dash 1 past 0; worth 10 + tip * 5;");
        Due.due("who sits beside when all have come", tips.years(1, 3, 0), 15);
    }

    private static void mark() {
        MiddleSeat x = Due.on(ROAD);
        Due.due("nothing on it", x.mark(0, true), false);
        Due.due("no mark 4", x.mark(4, false), false);
        Due.due("no mark -1", x.mark(-1, false), false);
        Due.due("no mark 4 back", x.mark(4, true), false);
        Due.due("no mark greatest", x.mark(Integer.MAX_VALUE, true), false);
        Due.due("laid at the begin", x.mark(3, false), true);
        x.sit(0, 0);
        x.sit(1, 2);
        x.sit(2, 1);
        x.drive();
        x.see(0, 0, 0, true);
        Due.shares(x, "row 5 2 3 ; row 4 3 3 ; row 1 5 4 ;");
        Due.journey(x, "drive;");
        Due.due("laid on the way", x.mark(0, false), true);
        x.see(1, 2, 0, true);
        Due.shares(x, "row 0 0 0; row 0 0 0; row 0 0 0;");
        x.sit(0, 1);
        x.sit(1, 0);
        x.drive();
        Due.due("back on the way", x.mark(0, true), true);
        Due.due("nothing can be undone", x.undo(), false);
        Due.due("undone are none", x.count(10), 0);
        Due.due("on the way", x.count(4), 1);
        Due.due("seat", Due.rider(x, 0, 3), 0);
        Due.due("total", Due.rider(x, 0, 4), 50);
        Due.due("seen", x.count(8), 1);
        Due.due("shares", x.pieces(0, -1), 5);
        Due.due("the journey stays", x.count(6), 1);
        x.sit(0, 1);
        x.sit(1, 0);
        x.drive();
        Due.due("fights against what was ahead then", Due.rider(x, 0, 4), 63);
        Due.due("back to the begin", x.mark(3, true), true);
        Due.due("nobody sits", x.count(5), 0);
        Due.due("no shares", x.count(7), 0);
        Due.due("nothing seen", x.count(8), 0);
        Due.due("total at the begin", Due.rider(x, 1, 4), 10);
        Due.due("and it is there still", x.mark(3, true), true);
        x.sit(0, 2);
        Due.due("laid anew", x.mark(3, false), true);
        Due.due("laying leaves what can be undone", x.undo(), true);
        Due.due("back to the new one", x.mark(3, true), true);
        Due.due("he sits", Due.rider(x, 0, 3), 2);
        Due.due("the others stay", x.mark(0, true) && x.count(4) == 1, true);
    }

    private static void count() {
        MiddleSeat x = Due.on(ROAD);
        x.sit(0, 0);
        x.sit(1, 2);
        x.sit(2, 1);
        x.drive();
        x.see(0, 0, 0, true);
        Due.journey(x, "drive; drive;");
        Due.shares(x, "row 0 0 0; row 0 0 0; row 0 0 0;");
        Due.feed(x, "abc");
        int[] want = {3, 2, 3, 3, 1, 3, 2, 1, 1, 7, 4, 3};
        for (int what = 0; what < want.length; what++) {
            Due.due("count(" + what + ")", x.count(what), want[what]);
        }
        Due.due("count(12)", x.count(12), -1);
        Due.due("count(-1)", x.count(-1), -1);
        Due.due("count(least)", x.count(Integer.MIN_VALUE), -1);
    }
}
