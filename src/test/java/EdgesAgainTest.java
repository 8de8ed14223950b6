/**
 * Promises 3 to 5 and 15 to 27 on one object again and again: "a ROAD is the ROAD from then on", so that
 * nothing of an older one, of an older JOURNEY or of older SHARES is left in any answer.
 */
public final class EdgesAgainTest {
    private static final String FULL = "seats 4;stretch 9 has 9 1 0 4;stretch 8 has 2 8 3 0;stretch 7 has 7 0 5 6;stretch 60 has 1 2 3 4;"
        + "rider a plain dash 9 past 40;rider b small dash 8 past 30;rider c sleeper dash 7 past 20;rider d plain dash 6 past 10;"
        + "apart a d;never b 0;gap 1;fight 11;worth base*time-tip*5+kind;rule ra seat+1;rule rb who;rule rc 3-seat;rule rd seat-1;";
    private static final String[] ROADS = {
        FULL,
        Snapshot.ROAD,
        "seats 2;",
        "seats 2;rider z small dash 4 past 77;rider y small dash 5 past 78;rule r 1-who;",
        "seats 2;stretch 3 has 1 2;rider a plain dash 1 past 0;",
        "seats 3;stretch 3 has 1 2 3;stretch 4 has 3 1 2;rider a plain dash 1 past 0;rider b plain dash 1 past 5;apart a b;rule r seat*2;fight 2;",
        "seats 4;stretch 50 has 9 9 9 9;rider a sick dash 1 past 0;never a 0;never a 3;rule r 1;rule q 2;",
        "seats 3;stretch 1 has 5 5 5;stretch 2 has 4 4 4;stretch 3 has 0 0 0;stretch 4 has 9 8 7;",
        FULL.replace("worth base*time-tip*5+kind;", "").replace("apart a d;never b 0;gap 1;fight 11;", "").replace("stretch 60 has 1 2 3 4;", "")};

    private EdgesAgainTest() {
    }

    public static void main(String[] args) {
        eachRoadIsAsOnANewObject();
        manyLongRoads();
        lawsAreToldAnew();
        manyJourneys();
        manyShares();
        anyStretchAgain();
        anyRuleAgain();
        Due.end();
    }

    /** Every road behind every other one, all of whose answers were asked for. */
    private static void eachRoadIsAsOnANewObject() {
        for (String first : ROADS) {
            for (String second : ROADS) {
                MiddleSeat x = Due.on(first);
                Snapshot.of(x);
                x.sit(0, 1);
                x.see(0, 0, 0, false);
                Due.due("the second road", Due.road(x, second), 0);
                Due.due("all is as on a new object: " + second, Snapshot.of(x).equals(Snapshot.of(Due.on(second))), true);
            }
        }
        MiddleSeat x = new MiddleSeat();
        for (String road : ROADS) {
            Due.due("one behind another", Due.road(x, road), 0);
            MiddleSeat y = Due.on(road);
            Due.due("after", x.after(), y.after());
            Due.due("most", Due.most(x, -1), Due.most(y, -1));
            Due.due("worst", Due.worst(x), Due.worst(y));
            Due.due("evenest", x.evenest(3, 0), y.evenest(3, 0));
        }
    }

    /** The longest laws there can be, as often as 512 calls go. */
    private static void manyLongRoads() {
        String begin = "seats 2;stretch 1 has 0 0;rider a plain dash 1 past 0;worth ";
        int ones = (1000 - begin.length() - 1 - 1) / 2;
        MiddleSeat x = new MiddleSeat();
        int calls = 0;
        for (int time = 0; calls < 440; time++) {
            String text = begin + "1" + (time % 2 == 0 ? "+" : "-") + "1" + "+1".repeat(ones - 2) + ";";
            Due.due("a thousand signs", text.length() <= 1000 && text.length() > 990, true);
            Due.due("road " + time, Due.road(x, text), 0);
            Due.due("all its terms " + time, x.worth(0, 0, 0), time % 2 == 0 ? ones : ones - 2);
            calls += (text.length() + 23) / 24 + 2;
        }
        MiddleSeat deep = new MiddleSeat();
        String part = "((((1<2 and 1+1*((0-1)+2)))))";
        for (int time = 0; time < 9; time++) {
            Due.due("not too deep", Due.road(deep, begin + "((((1))))+((((0<1 and 1+1*2))));"), 0);
            Due.due("a deep one", deep.worth(0, 0, 0), 2);
        }
        Due.due("one too deep", Due.road(deep, begin + part + ";"), 5 + 16 * (begin.length() + part.indexOf("((0-1") + 1));
    }

    /** "fight, worth: once each", "each pair once", "no two are alike": on one road, not on two. */
    private static void lawsAreToldAnew() {
        MiddleSeat x = new MiddleSeat();
        String road = "seats 3;rider a plain dash 1 past 0;rider b plain dash 1 past 0;apart a b;never a 1;gap 1;fight 5;worth 7;rule r 1;";
        for (int time = 0; time < 4; time++) {
            Due.due("time " + time, Due.road(x, road), 0);
            Due.due("twice on one " + time, Due.road(x, road + "apart b a;"), 3 + 16 * (road.length() + 8));
            Due.due("twice on one " + time, Due.road(x, road + "fight 5;"), 3 + 16 * road.length());
        }
        Due.due("a road without them", Due.road(x, "seats 3;stretch 2 has 1 2 3;rider b plain dash 1 past 0;rider a plain dash 1 past 0;rule q 1;"), 0);
        Due.due("no pair apart, no never", x.plans(), 6);
        Due.due("no fight", x.count(9), 0);
        Due.due("no worth", x.worth(1, 1, 0), 4);
    }

    /** A shorter JOURNEY behind a longer one, and one with a FAULT between. */
    private static void manyJourneys() {
        MiddleSeat x = Due.on("seats 2;stretch 10 has 1 2;stretch 10 has 1 2;rider a plain dash 1 past 0;");
        Due.due("twenty", Due.journey(x, "sit a 1;drive;sit a 0;drive;" + "sit a 1;".repeat(16)), 0);
        Due.due("both stretches", x.judged(0), 30);
        Due.due("two", Due.journey(x, "sit a 1;drive;"), 0);
        Due.due("one stretch", x.judged(0) * 10 + x.count(6), 202);
        Due.due("a fault", Due.journey(x, "drive;sit a 0;sit a 2;"), 4 + 16 * 20);
        Due.due("nothing of it", x.judged(0) * 10 + x.judged(-1), 199);
        Due.due("drives where sits were", Due.journey(x, "drive;drive;"), 0);
        Due.due("nobody sits", x.judged(-1) + x.judged(0), 0);
        Due.due("none", x.journey(), 0);
        Due.due("past", x.judged(0) + x.count(6) + x.judged(-1), -1);
    }

    /** SHARES behind SHARES, of fewer SEATS behind more, and with a FAULT between. */
    private static void manyShares() {
        String four = "seats 4;stretch 6 has 0 0 0 0;rider a plain dash 1 past 0;rider b plain dash 1 past 0;rider c plain dash 1 past 0;rider d plain dash 1 past 0;";
        MiddleSeat x = Due.on(four);
        Due.due("shares", Due.shares(x, "row 0 0 0 6;row 0 0 6 0;row 0 6 0 0;row 6 0 0 0;"), 0);
        Due.due("one piece", x.pieces(0, -1) * 1000 + x.pieces(0, 0), 1228);
        Due.due("a fault", Due.shares(x, "row 6 0 0 0;row 0 6 0 0;row 0 0 6 0;row 0 0 0 6;row"), 1 + 16 * 48);
        Due.due("the same piece", x.pieces(0, 0), 228);
        Due.due("others", Due.shares(x, "row 6 0 0 0;row 0 6 0 0;row 0 0 6 0;row 0 0 0 6;"), 0);
        Due.due("another piece", x.pieces(0, 0), 27);
        Due.due("a smaller road", Due.road(x, "seats 2;stretch 6 has 0 0;rider a plain dash 1 past 0;rider b plain dash 1 past 0;"), 0);
        Due.due("no shares", x.pieces(0, -1), -2);
        Due.due("smaller ones", Due.shares(x, "row 1 5;row 5 1;"), 0);
        Due.due("two pieces", x.pieces(0, -1) * 1000 + x.pieces(0, 2) * 10 + x.pieces(0, 3), 2045);
    }

    /** One stretch behind another one: nothing of what was asked before is left. */
    private static void anyStretchAgain() {
        String[] calls = {"stretch", "toffees", "door", "pieces"};
        int[][] asked = new int[calls.length][4];
        for (int time = 0; time < 2; time++) {
            MiddleSeat x = Due.on(FULL);
            Due.shares(x, "row 0 0 0 8;row 0 0 8 0;row 0 8 0 0;row 8 0 0 0;");
            for (int i = 0; i < 4; i++) {
                int stretch = time == 0 ? i : 3 - i;
                int[] got = {x.stretch(stretch, 1), x.toffees(stretch, -1), (int) x.door(stretch, 1, 1, 0), x.pieces(stretch, -1)};
                for (int call = 0; call < calls.length; call++) {
                    Due.due(calls[call] + " of " + stretch, got[call], time == 0 ? got[call] : asked[call][stretch]);
                    asked[call][stretch] = got[call];
                }
            }
        }
    }

    /** One rule behind another one, a told JOURNEY between. */
    private static void anyRuleAgain() {
        MiddleSeat x = Due.on(ROADS[ROADS.length - 1]);
        Due.journey(x, "sit a 0;sit b 1;sit c 2;sit d 3;drive;");
        int[] first = new int[4];
        for (int rule = 0; rule < 4; rule++) {
            first[rule] = x.called(rule, 0) * 1000 + x.called(rule, 1);
        }
        int total = x.judged(0);
        x.fairest();
        for (int rule = 3; rule >= 0; rule--) {
            Due.due("judged between", x.judged(0), total);
            Due.due("rule " + rule, x.called(rule, 0) * 1000 + x.called(rule, 1), first[rule]);
        }
        Due.due("turned", x.called(0, 1), 1 * 64 + 2 * 16 + 3 * 4 + 0);
        Due.due("turned on", x.called(0, 3), 3 * 64 + 0 * 16 + 1 * 4 + 2);
    }
}
