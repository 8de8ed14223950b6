/** Promises 3 to 5: the language of the TAPE and its FAULTS, and that a FAULT leaves all as it was. */
public final class FaultsTest {
    private static final String TWO = "seats 3 ; rider aa plain dash 1 past 0 ; rider bb small dash 1 past 0 ; ";

    // What comes behind the first wrong token makes no difference.
    private static final String[] MORE = {" ; fight 3 ;", " % 77777 ; seats", " 1 2 3 ; worth 1 ; x", " bb ; rider aa plain dash 0"};

    private FaultsTest() {
    }

    public static void main(String[] args) {
        tokens();
        roadLines();
        numbers();
        toldAlready();
        tooMany();
        names();
        expressions();
        depth();
        journeys();
        shares();
        allStays();
        oldSigns();
        Due.end();
    }

    /** Each text's FAULT is of that kind at the token that begins at that place. */
    private static void roadFault(String text, int kind, int place) {
        MiddleSeat x = new MiddleSeat();
        Due.due("road '" + text + "'", Due.road(x, text), kind == 0 ? 0 : kind + 16 * place);
        Due.due("tape behind '" + text + "'", x.count(11), 0);
        if (kind != 0 && place < text.length()) {
            for (String more : MORE) {
                Due.due("road '" + text + more + "'", Due.road(x, text + more), kind + 16 * place);
            }
        }
    }

    /** Behind TWO: the FAULT is at the last token of the text, which is so long. */
    private static void lastFault(String text, int kind, int length) {
        roadFault(TWO + text, kind, TWO.length() + text.length() - length);
    }

    private static void good(String text) {
        roadFault(TWO + text, 0, 0);
    }

    private static void tokens() {
        roadFault("", 1, 0);
        roadFault("   ", 1, 3);
        roadFault("seats", 1, 5);
        roadFault("seats ", 1, 6);
        roadFault("seats 2", 1, 7);
        roadFault("seats 2;", 0, 0);
        roadFault("seats2;", 0, 0);
        roadFault("\n seats\n2\n;\n", 0, 0);
        roadFault("seats 02;", 0, 0);
        roadFault("seats 0002;", 0, 0);
        roadFault("seats 00002;", 1, 6);
        roadFault("seats 2 2;", 1, 8);
        roadFault("Seats 2;", 1, 0);
        roadFault("seats 2,", 1, 7);
        roadFault("seats -2;", 1, 6);
        roadFault("seats 2; %", 1, 9);
        roadFault("seats 2; ;", 1, 9);
        roadFault("seats 2; 7", 1, 9);
        good("stretch 5has 1 2 3;");
        good("stretch5has1 2 3;");
        good("rule abcdefgh 1;");
        lastFault("rule abcdefghi", 1, 9);
        good("worth 9999;");
        lastFault("worth 10000", 1, 5);
        lastFault("worth 123456789012345678901234567890", 1, 30);
        lastFault("worth abcdefghijklmnopqrstuvwxyzabcdefghijkl", 1, 38);
    }

    private static void roadLines() {
        roadFault("stretch 5 has 1 2;", 1, 0);
        lastFault("seats", 1, 5);
        lastFault("stretch has", 1, 3);
        lastFault("stretch 5 5", 1, 1);
        lastFault("stretch 5 has 1 2 3 4", 1, 1);
        lastFault("stretch 5 has 1 2 ;", 1, 1);
        lastFault("rider ;", 1, 1);
        lastFault("rider 5", 1, 1);
        lastFault("rider cc dash", 1, 4);
        lastFault("rider cc sick past", 1, 4);
        lastFault("rider cc sick dash 1 dash", 1, 4);
        lastFault("rider cc sick dash 1 past 1 rider", 1, 5);
        lastFault("apart aa ;", 1, 1);
        lastFault("apart aa bb aa", 1, 2);
        lastFault("never aa bb", 1, 2);
        lastFault("never 1", 1, 1);
        lastFault("gap aa", 1, 2);
        lastFault("fight ;", 1, 1);
        lastFault("fight 1 2", 1, 1);
        lastFault("sit", 1, 3);
        lastFault("drive", 1, 5);
        lastFault("row", 1, 3);
        lastFault("has", 1, 3);
        lastFault("aa", 1, 2);
        roadFault(TWO + "fight 1", 1, TWO.length() + 7);
        roadFault(TWO + "fight 1  \n", 1, TWO.length() + 10);
        roadFault(TWO + "worth 1", 1, TWO.length() + 7);
    }

    private static void numbers() {
        roadFault("seats 1", 4, 6);
        roadFault("seats 0", 4, 6);
        roadFault("seats 4;", 0, 0);
        roadFault("seats 5", 4, 6);
        roadFault("seats 9999", 4, 6);
        good("stretch 1 has 0 9 0; stretch 99 has 9 9 9;");
        lastFault("stretch 0", 4, 1);
        lastFault("stretch 100", 4, 3);
        lastFault("stretch 1 has 10", 4, 2);
        good("rider cc plain dash 9 past 9999;");
        lastFault("rider cc plain dash 0", 4, 1);
        lastFault("rider cc plain dash 10", 4, 2);
        good("never aa 0; never aa 2; never bb 0;");
        lastFault("never aa 3", 4, 1);
        good("gap 0; gap 1;");
        lastFault("gap 2", 4, 1);
        roadFault("seats 2; gap 0;", 0, 0);
        roadFault("seats 2; gap 1;", 4, 13);
        roadFault("seats 4; gap 2; gap 0; gap 1;", 0, 0);
        roadFault("seats 4; gap 3;", 4, 13);
        good("fight 0;");
        good("fight 99;");
        lastFault("fight 100", 4, 3);
    }

    private static void toldAlready() {
        lastFault("rider bb", 3, 2);
        lastFault("rule aa", 3, 2);
        lastFault("rule r 1; rule r", 3, 1);
        lastFault("rule r 1; rider r", 3, 1);
        lastFault("apart aa aa", 3, 2);
        lastFault("apart aa bb; apart aa bb", 3, 2);
        lastFault("apart aa bb; apart bb aa", 3, 2);
        good("never aa 1; never bb 1; never aa 2;");
        lastFault("never aa 1; never bb 1; never aa 1", 3, 1);
        lastFault("gap 1; gap 1", 3, 1);
        lastFault("fight 0; fight", 3, 5);
        lastFault("worth 0; worth", 3, 5);
    }

    private static void tooMany() {
        String stretch = "stretch 1 has 1 1 1; ";
        good(stretch + stretch + stretch + stretch);
        lastFault(stretch + stretch + stretch + stretch + "stretch", 5, 7);
        good("rule a 1; rule b 1; rule c 1; rule d 1;");
        lastFault("rule a 1; rule b 1; rule c 1; rule d 1; rule", 5, 4);
        good("rider cc plain dash 1 past 0;");
        lastFault("rider cc plain dash 1 past 0; rider", 5, 5);
        roadFault("seats 2; rider a plain dash 1 past 0; rider b plain dash 1 past 0; rider", 5, 67);
        String four = "seats 4;";
        for (char name = 'a'; name <= 'd'; name++) {
            four += "rider " + name + " plain dash 1 past 0;";
        }
        roadFault(four, 0, 0);
        roadFault(four + "rider e", 5, four.length());
    }

    private static void names() {
        String no = "seats stretch has rider dash past apart never gap fight worth rule sit drive row"
            + " plain sick sleeper small not and or";
        for (String word : no.split(" ")) {
            lastFault("rider " + word, 1, word.length());
            lastFault("rule " + word, 1, word.length());
            lastFault("apart " + word, 1, word.length());
            lastFault("apart aa " + word, 1, word.length());
            lastFault("never " + word, 1, word.length());
        }
        for (String word : "base time kind end tip seat stop who x".split(" ")) {
            good("rider " + word + " plain dash 1 past 0;");
            good("rule " + word + " 1;");
        }
        lastFault("apart cc", 2, 2);
        lastFault("apart aa cc", 2, 2);
        lastFault("never cc", 2, 2);
        lastFault("rule rr 1; never rr", 2, 2);
        lastFault("rule rr 1; apart aa rr", 2, 2);
        roadFault("seats 2; apart a", 2, 15);
    }

    private static void expressions() {
        for (String fact : "base time kind end tip".split(" ")) {
            good("worth " + fact + ";");
            lastFault("rule r " + fact, 1, fact.length());
            lastFault("rule r 1 + " + fact, 1, fact.length());
        }
        for (String fact : "seat stop who".split(" ")) {
            good("rule r " + fact + ";");
            lastFault("worth " + fact, 1, fact.length());
        }
        good("worth 1 and 2 or 3 and not 4;");
        good("worth (1)<(2);");
        good("worth 1<2 and 2<3;");
        good("worth(1<2)<3;");
        good("worth not not 1*2-3+4=5;");
        lastFault("worth ;", 1, 1);
        lastFault("worth aa", 1, 2);
        lastFault("worth and", 1, 3);
        lastFault("worth - ", 1, 2);
        lastFault("worth 1 1", 1, 1);
        lastFault("worth 1 not", 1, 3);
        lastFault("worth 1 (", 1, 1);
        lastFault("worth 1 )", 1, 1);
        lastFault("worth ( )", 1, 1);
        lastFault("worth ( 1 ;", 1, 1);
        lastFault("worth ( 1 ) )", 1, 1);
        lastFault("worth 1 + *", 1, 1);
        lastFault("worth 1 + +", 1, 1);
        lastFault("worth 1 < 2 <", 1, 1);
        lastFault("worth 1 < 2 =", 1, 1);
        lastFault("worth 1 = 2 = ", 1, 2);
        lastFault("worth 1 < <", 1, 1);
        lastFault("worth 1 and or", 1, 2);
        lastFault("worth not )", 1, 1);
        lastFault("worth not and", 1, 3);
        lastFault("rule ( ", 1, 2);
        roadFault(TWO + "worth 1 +", 1, TWO.length() + 9);
        roadFault(TWO + "worth ( 1", 1, TWO.length() + 9);
    }

    private static void depth() {
        good("worth ((((1))));");
        good("worth not not not not 1;");
        good("worth not ( not ( base ) ) * ((((1)))) + ((((2))));");
        lastFault("worth (((((1", 5, 1);
        lastFault("worth ((((((", 5, 1);
        lastFault("worth (((((not", 5, 3);
        lastFault("worth (((((tip", 5, 3);
        lastFault("worth not not not not not not", 5, 3);
        lastFault("worth not ( not ( not 1", 5, 1);
        lastFault("worth ((((1 + not 1", 5, 1);
        lastFault("worth (((((seat", 1, 4);
        lastFault("worth ((((()", 1, 1);
        lastFault("worth (((((and", 1, 3);
        lastFault("worth (((((12345", 1, 5);
        lastFault("rule r (((((base", 1, 4);
        lastFault("rule r (((((seat", 5, 4);
        roadFault(TWO + "worth (((((", 1, TWO.length() + 11);
    }

    private static void journeyFault(String text, int kind, int place) {
        MiddleSeat x = Due.on(TWO + "rule rr 1;");
        Due.due("journey '" + text + "'", Due.journey(x, text), kind == 0 ? 0 : kind + 16 * place);
        Due.due("tape behind '" + text + "'", x.count(11), 0);
    }

    private static void journeys() {
        journeyFault("", 0, 0);
        journeyFault(" \n", 0, 0);
        journeyFault("sit aa 0; sit bb 2;drive;", 0, 0);
        journeyFault("sit aa 3;", 4, 7);
        journeyFault("sit aa bb", 1, 7);
        journeyFault("sit rr 0;", 2, 4);
        journeyFault("sit cc 0;", 2, 4);
        journeyFault("sit row 0;", 1, 4);
        journeyFault("sit 0;", 1, 4);
        journeyFault("sit aa 0", 1, 8);
        journeyFault("sit aa 0 1", 1, 9);
        journeyFault("drive", 1, 5);
        journeyFault("drive drive", 1, 6);
        journeyFault("seats 3;", 1, 0);
        journeyFault(";", 1, 0);
        journeyFault("drive;#", 1, 6);
        StringBuilder twenty = new StringBuilder();
        for (int i = 0; i < 20; i++) {
            twenty.append(i % 2 == 0 ? "drive;" : "sit aa 1;");
        }
        journeyFault(twenty.toString(), 0, 0);
        journeyFault(twenty + "sit", 5, twenty.length());
        journeyFault(twenty + "drive", 5, twenty.length());
        journeyFault(twenty + "stop", 1, twenty.length());
        journeyFault(twenty + ";", 1, twenty.length());
    }

    private static void sharesFault(String text, int kind, int place) {
        MiddleSeat x = Due.on(TWO);
        Due.due("shares '" + text + "'", Due.shares(x, text), kind == 0 ? 0 : kind + 16 * place);
        Due.due("tape behind '" + text + "'", x.count(11), 0);
        Due.due("are there shares behind '" + text + "'", x.count(7), kind == 0 ? 1 : 0);
    }

    private static void shares() {
        sharesFault("row 0 0 0; row 99 99 99;", 0, 0);
        sharesFault("", 1, 0);
        sharesFault("row 1 2 3;", 1, 10);
        sharesFault("row 1 2 3", 1, 9);
        sharesFault("row 1 2;", 1, 7);
        sharesFault("row 1 2 3 4;", 1, 10);
        sharesFault("row 1 2 100", 4, 8);
        sharesFault("row 1 2 3; sit", 1, 11);
        sharesFault("row 1 2 3; row 1 2 3; row 1 2 3;", 1, 22);
        sharesFault("row 1 2 3; row 1 2 3;;", 1, 21);
        MiddleSeat nobody = new MiddleSeat();
        Due.due("shares of nobody, one row", Due.shares(nobody, "row"), 1);
        Due.due("none are there", nobody.count(7), 0);
        Due.due("shares of nobody", nobody.shares(), 0);
        Due.due("they are there", nobody.count(7), 1);
    }

    /** What stood on the tape, and who was told on an older road, is gone. */
    private static void oldSigns() {
        MiddleSeat x = new MiddleSeat();
        Due.due("a longer number", Due.road(x, "seats 299;"), 4 + 16 * 6);
        Due.due("a shorter one", Due.road(x, "seats 2"), 1 + 16 * 7);
        Due.due("a longer word", Due.road(x, "seatsa 2;"), 1);
        Due.due("a shorter one", Due.road(x, "seats"), 1 + 16 * 5);
        String told = "seats 2; rider a plain dash 1 past 0; rider b plain dash 1 past 0; rule r 1;";
        Due.due("told", Due.road(x, told), 0);
        Due.due("told twice", Due.road(x, told), 0);
        String one = "seats 2; rider a plain dash 1 past 0;";
        Due.due("b is told no more", Due.road(x, one + "apart a b"), 2 + 16 * (one.length() + 8));
        Due.due("and may be told again", Due.road(x, one + "rule b 1; rider r plain dash 1 past 0;"), 0);
        Due.due("nor for a journey", Due.journey(x, "sit b"), 2 + 16 * 4);
        Due.due("laws are gone, too", Due.road(x, one + "fight 1; worth 1; gap 0; never a 0;"), 0);
        Due.due("so they can be told again", Due.road(x, one + "fight 1; worth 2; gap 0; never a 0;"), 0);
        Due.due("and again", Due.road(x, one), 0);
        Due.due("nothing of them is left", x.count(9) * 10 + x.plans(), 2);
    }

    private static void allStays() {
        MiddleSeat x = Due.on("seats 2; stretch 7 has 4 5; rider a plain dash 2 past 3; fight 8; rule r 1;");
        Due.due("a journey", Due.journey(x, "sit a 0; drive;"), 0);
        Due.due("shares", Due.shares(x, "row 7 0;"), 0);
        x.sit(0, 1);
        x.mark(0, false);
        x.see(0, 0, 0, true);
        String wrong = "seats 4; stretch 9 has 9 9 9 9; rider b sick dash 9 past 9; never b 1; fight 9; worth 1; rule q 2; x";
        Due.due("a wrong road", Due.road(x, wrong), 1 + 16 * (wrong.length() - 1));
        Due.due("a wrong journey", Due.journey(x, "drive; drive; drive"), 1 + 16 * 19);
        Due.due("wrong shares", Due.shares(x, "row 1 1; 5"), 1 + 16 * 9);
        int[] want = {2, 1, 1, 1, 0, 1, 2, 1, 1, 8, 1, 0};
        for (int what = 0; what < want.length; what++) {
            Due.due("count(" + what + ") behind faults", x.count(what), want[what]);
        }
        Due.due("minutes", x.stretch(0, 0), 7);
        Due.due("dash", Due.rider(x, 0, 1), 2);
        Due.due("worth", x.worth(1, 0, 0), 35);
        Due.due("judged", x.judged(0), 3 + 28);
        Due.due("pieces, one rider only", x.pieces(0, -1), -2);
        Due.due("the mark is there", x.mark(0, true), true);
        Due.due("the rule", x.called(0, 1), 1);
    }
}
