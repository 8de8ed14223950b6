/**
 * Promises 2 to 5: a method for each sentence of the document about the TAPE, TOKENS, ROADS, JOURNEYS,
 * SHARES, Es and FAULTS that names an edge: the last that is good, and the first that isn't.
 */
public final class EdgesTapeTest {
    private static final String TWO = "seats 2;rider aa plain dash 1 past 0;rider bb sick dash 9 past 9999;";
    private static final String FOUR = "seats 4;rider a plain dash 1 past 0;rider b sick dash 2 past 1;"
        + "rider c sleeper dash 3 past 2;rider d small dash 4 past 3;";
    private static final String STRETCH = "stretch 1 has 0 0;";

    private EdgesTapeTest() {
    }

    public static void main(String[] args) {
        upTo24SignsComeBehind();
        eachByteIsTakenOrLeftOut();
        whatIsLeftOutLeavesNoHole();
        theTapeHasAThousandSigns();
        whatReadsTheTapeTakesIt();
        whatDoesNotReadItLeavesIt();
        tokensAreAsLongAsCanBe();
        blanksWhereOneLikes();
        wordsOfEightLetters();
        numbersOfFourDigits();
        allElseIsNone();
        seatsComeFirst();
        seatsTwoToFour();
        anyNumberOfLinesInAnyOrder();
        fourStretches();
        minutesOneTo99();
        ofEachSeatWhatItHas();
        noMoreRidersThanSeats();
        ridersAreNumberedAsTold();
        kinds();
        dashOneTo9();
        pastZeroTo9999();
        apartTwoToldNotTheSame();
        apartEachPairOnce();
        neverARiderToldASeat();
        neverEachPairOnce();
        gapsUpToSeatsLessTwo();
        fightZeroTo99Once();
        worthOnce();
        fourRules();
        namesAreNoneOfTheseWords();
        noTwoNamesAreAlike();
        noLineWithinALine();
        twentyLinesOfAJourney();
        sitOfARiderToldOnASeat();
        rowsForEachRiderInOrder();
        rowsOfEachSeatZeroTo99();
        oneTestHasOneComparison();
        fromTheLeft();
        noPartWithinFive();
        factsOfWorthAndOfRules();
        oneOrZero();
        intsWrap();
        withoutWorthBaseTimesTime();
        theEndIsATokenAtTheLength();
        placesUpToTheLastSign();
        theLeastOfSeveralFaults();
        aFaultChangesNothing();
        aRoadWithoutFaultIsAllNew();
        Due.end();
    }

    // ---- what the methods below share

    private static void good(String text) {
        Due.due("road '" + text + "'", Due.road(new MiddleSeat(), text), 0);
    }

    /** Behind good signs that token is the first one wrong, at the text's end and with more behind it. */
    private static void wrong(String before, String token, int kind) {
        int due = kind + 16 * before.length();
        Due.due("road '" + before + token + "'", Due.road(new MiddleSeat(), before + token), due);
        Due.due("road '" + before + token + " ; %'", Due.road(new MiddleSeat(), before + token + " ; %"), due);
    }

    private static void journeyWrong(String before, String token, int kind) {
        MiddleSeat x = Due.on(TWO + "rule r 1;");
        Due.due("journey '" + before + token + "'", Due.journey(x, before + token), kind + 16 * before.length());
        Due.due("no journey then", x.count(6), 0);
    }

    private static void sharesWrong(String before, String token, int kind) {
        MiddleSeat x = Due.on(TWO);
        Due.due("shares '" + before + token + "'", Due.shares(x, before + token), kind + 16 * before.length());
        Due.due("no shares then", x.count(7), 0);
    }

    private static String times(int many, String text) {
        return text.repeat(many);
    }

    private static int valueOf(String law) {
        return Due.on("seats 2;stretch 10 has 3 4;rider a small dash 1 past 0;worth " + law + ";").worth(1, 0, 0);
    }

    private static void worthIs(String law, int value) {
        Due.due("worth " + law, valueOf(law), value);
    }

    /** Where a rule leads the only RIDER of 3 SEATS at the first stop. */
    private static void ruleGoesTo(String law, int seat) {
        MiddleSeat x = Due.on("seats 3;stretch 1 has 0 0 0;stretch 1 has 0 0 0;rider a plain dash 1 past 0;rule r " + law + ";");
        Due.due("rule " + law, x.called(0, 2), seat);
    }

    /** The text ends before what is due. */
    private static void endsTooEarly(String text) {
        Due.due("road '" + text + "'", Due.road(new MiddleSeat(), text), 1 + 16 * text.length());
    }

    private static MiddleSeat fed(int blanks, String text) {
        MiddleSeat x = new MiddleSeat();
        Due.feed(x, times(blanks, " ") + text);
        return x;
    }

    // ---- promise 2

    /** "Up to 24 signs come behind the TAPE: the bytes of a, b, c, of each the highest first". */
    private static void upTo24SignsComeBehind() {
        MiddleSeat x = new MiddleSeat();
        Due.due("no sign", x.feed(0, 0, 0), 0);
        Due.due("one, the lowest of c", x.feed(0, 0, 's'), 1);
        Due.due("one, the highest of a", x.feed((long) 'e' << 56, 0, 0), 2);
        Due.due("two of b", x.feed(0, 'a' << 8 | 't', 0), 4);
        Due.due("one of each", x.feed('s', ' ', '3'), 7);
        Due.due("the last", x.feed(0, (long) ';' << 32, 0), 8);
        Due.due("so they stand", x.road(), 0);
        Due.due("with three", x.count(0), 3);
        Due.due("twenty-four", x.feed(0x2020202020202020L, 0x2020202020202020L, 0x2020202020202020L), 24);
        Due.due("and as many more", x.feed(0x7e7e7e7e7e7e7e7eL, 0x0a0a0a0a0a0a0a0aL, 0x2121212121212121L), 48);
        Due.due("in order", x.road(), 1 + 16 * 24);
    }

    /** "others than 10 and 32 .. 126 [...] are left out", each byte at each of the 24 places. */
    private static void eachByteIsTakenOrLeftOut() {
        for (int place = 0; place < 24; place++) {
            MiddleSeat x = new MiddleSeat();
            int many = 0;
            for (int sign = 0; sign < 256; sign++) {
                long bytes = (long) sign << 56 - 8 * (place % 8);
                many += sign == 10 || sign >= 32 && sign <= 126 ? 1 : 0;
                int got = x.feed(place < 8 ? bytes : 0, place / 8 == 1 ? bytes : 0, place >= 16 ? bytes : 0);
                Due.due("sign " + sign + " at " + place, got, many);
            }
            Due.due("96 of 256", x.count(11), 96);
        }
    }

    /** "left out": the signs round them come together. */
    private static void whatIsLeftOutLeavesNoHole() {
        MiddleSeat x = new MiddleSeat();
        Due.due("left out between", x.feed(0x730065ff61097f74L, 0x0b731f200d330080L, 0x000000000000003bL), 8);
        Due.due("seats 3;", x.road(), 0);
        Due.due("with three", x.count(0), 3);
    }

    /** "The TAPE has at most 1,000 signs"; "what is beyond 1,000, [is] left out". */
    private static void theTapeHasAThousandSigns() {
        MiddleSeat x = fed(999, "");
        Due.due("999", x.count(11), 999);
        Due.due("the thousandth", x.feed(0, ' ', 0), 1000);
        Due.due("no more", x.feed(' ', ' ', ' '), 1000);
        Due.due("the end is at 1,000", x.road(), 1 + 16 * 1000);
        Due.due("empty then", x.feed(' ', 0, 0), 1);
        Due.due("just in", fed(992, "seats 2;").road(), 0);
        Due.due("the last sign is beyond", fed(993, "seats 2;").road(), 1 + 16 * 1000);
        Due.due("a number is cut", fed(993, "seats 22").road(), 1 + 16 * 1000);
        x = fed(984, "        seats 4;% % % % ");
        Due.due("of 24 signs the first 16", x.count(11), 1000);
        Due.due("they are the road", x.road(), 0);
        Due.due("with four", x.count(0), 4);
        x = fed(1000, "");
        Due.due("left out at a full tape", x.feed(0x7365617473203220L, 0x3b00000000000000L, 0), 1000);
        Due.due("and not kept for later", x.road() + x.count(11), 1 + 16 * 1000);
    }

    /** "what reads it takes it: it is empty then". */
    private static void whatReadsTheTapeTakesIt() {
        MiddleSeat x = new MiddleSeat();
        Due.due("road with a fault", Due.road(x, "abc"), 1);
        Due.due("empty", x.count(11), 0);
        Due.due("road", Due.road(x, TWO), 0);
        Due.due("empty", x.count(11), 0);
        Due.due("so the next reads nothing", x.road(), 1);
        Due.due("journey with a fault", Due.journey(x, "abc"), 1);
        Due.due("empty", x.count(11), 0);
        Due.due("journey", Due.journey(x, "drive;"), 0);
        Due.due("empty", x.count(11), 0);
        Due.due("the next one reads no lines", x.journey() + x.count(6), 0);
        Due.due("shares with a fault", Due.shares(x, "abc"), 1);
        Due.due("empty", x.count(11), 0);
        Due.due("shares", Due.shares(x, "row 0 0;row 0 0;"), 0);
        Due.due("empty", x.count(11), 0);
        Due.due("shares of nothing", x.shares(), 1);
        Due.due("the ones there stay", x.count(7), 1);
    }

    /** What reads nothing leaves the TAPE as it is. */
    private static void whatDoesNotReadItLeavesIt() {
        MiddleSeat x = Due.on(TWO + STRETCH + "rule r who;");
        Due.feed(x, "drive;");
        x.sit(0, 0);
        x.drive();
        x.undo();
        x.judged(-1);
        x.evenest(12, 0);
        Due.most(x, -1);
        Due.worst(x);
        x.after();
        x.pieces(0, -1);
        x.toffees(0, -1);
        x.door(0, 0, 0, 0);
        x.called(0, 0);
        x.fairest();
        x.see(0, 0, 0, true);
        x.fits(0);
        x.years(0, 1, 0);
        x.mark(0, false);
        Due.due("six signs", x.count(11), 6);
        x.mark(0, true);
        Due.due("a mark holds no tape", x.count(11), 6);
        Due.due("it is read", x.journey(), 0);
        Due.due("as one line", x.count(6), 1);
    }

    // ---- TOKENS

    /** "TOKENS, each as long as can be". */
    private static void tokensAreAsLongAsCanBe() {
        wrong("", "seatsx", 1);
        wrong("seats ", "22", 4);
        wrong("seats 2;", "rideraa", 1);
        wrong("seats 2;rider aa ", "plaindas", 1);
        wrong("seats 2;stretch 1 has 00", ";", 1);
        wrong("seats 2;worth ", "notnot", 1);
        wrong("seats 2;worth 1 ", "andor", 1);
        worthIs("10-1", 9);
        worthIs("not not 1", 1);
        good("seats2;stretch1has0 0;rider a plain dash1past0;never a1;");
    }

    /** "blanks (10, 32) between where one likes": before, behind, many, or none; but not within a token. */
    private static void blanksWhereOneLikes() {
        good("\n \n seats \n 2 \n\n; ");
        good("seats2;worth(1)<(not 2)and 3or(base)=time*end+tip-kind;");
        good("seats 2;rider a plain dash 1\npast 0;\n\nrule r\nwho\n;\n");
        wrong("", "sea ts 2;", 1);
        wrong("seats 3;never ", "1", 1);
        wrong("seats 2;stretch 1 ", "h as 0 0;", 1);
        wrong("seats 2;stretch 9 ", "9 has 0 0;", 1);
        endsTooEarly("");
        endsTooEarly("\n");
        endsTooEarly(times(24, " \n"));
        for (char blank : new char[] {9, 11, 12, 13, 0, 127}) {
            MiddleSeat x = new MiddleSeat();
            x.feed(0x7365617473L, 0, 0);
            Due.due("no blank: " + (int) blank, x.feed(blank, '2', ';'), 7);
            Due.due("so it is left out", x.road(), 0);
        }
    }

    /** "WORDS (letters a .. z, 8 at most)". */
    private static void wordsOfEightLetters() {
        good("seats 2;rider abcdefgh plain dash 1 past 0;rider zzzzzzzz plain dash 1 past 0;apart abcdefgh zzzzzzzz;");
        good("seats 2;rider aaaaaaaa plain dash 1 past 0;rider aaaaaaab plain dash 1 past 0;rule aaaaaaa 1;");
        wrong("seats 2;rider ", "abcdefghi", 1);
        wrong("seats 2;rider ", times(40, "a"), 1);
        wrong("seats 2;rule ", "stretchxx", 1);
        wrong("seats 2;rule r ", "basebasee", 1);
        wrong("seats 2;", "stretches", 1);
        wrong("", times(1000, "z"), 1, 1000);
        wrong("seats 2;rider ", "A", 1);
        wrong("seats 2;rider ann", "A", 1);
        wrong("seats 2;rider ", "`", 1);
        wrong("seats 2;rider ", "{", 1);
    }

    /** As far as 1,000 signs go, with nothing behind the token. */
    private static void wrong(String before, String token, int kind, int length) {
        Due.due("so many signs", before.length() + token.length(), length);
        Due.due("road '" + before + token + "'", Due.road(new MiddleSeat(), before + token), kind + 16 * before.length());
    }

    /** "NUMBERS (1 to 4 digits; a letter may stand right behind)". */
    private static void numbersOfFourDigits() {
        good("seats 0002;stretch 0001has 0009 0;rider a plain dash 0009past 9999;");
        good("seats 2;stretch 1has 0 0;rider a plain dash 1past 0;fight 0000;worth 9999and 1or 0;");
        wrong("seats ", "00002", 1);
        wrong("seats 2;worth ", "10000", 1);
        wrong("seats 2;worth ", "00000", 1);
        wrong("seats 2;worth ", "4294967297", 1);
        wrong("seats ", "18446744073709551618", 1);
        wrong("seats 2;rider a plain dash 1 past ", "10000", 1);
        wrong("seats 2;rider a plain dash 1 past ", "99999", 1);
        wrong("seats 2;worth 1", "x", 1);
        wrong("seats 2;worth ", "/", 1);
        wrong("seats 2;worth ", ":", 1);
    }

    /** "the signs ( ) < = + - * ;  All else [...] is none": each sign where one may join two NUMBERS, and at first. */
    private static void allElseIsNone() {
        for (char sign = 33; sign <= 126; sign++) {
            String before = "seats 2;worth 1 ";
            String text = before + sign + " 1;";
            int due = "+-*<=".indexOf(sign) >= 0 ? 0 : 1 + 16 * (before.length() + (sign == ';' ? 2 : 0));
            Due.due("road '" + text + "'", Due.road(new MiddleSeat(), text), due);
            wrong("", "" + sign, 1);
            wrong("seats 2;", "" + sign, 1);
            wrong("seats 2;worth 1", "" + (sign == ';' || sign >= '0' && sign <= '9' || "+-*<=".indexOf(sign) >= 0 ? '_' : sign), 1);
            journeyWrong("", "" + sign, 1);
            sharesWrong("", "" + sign, 1);
        }
    }

    // ---- ROADS

    /** "seats N ;   first": "another line than seats first, seats again". */
    private static void seatsComeFirst() {
        for (String line : "stretch rider apart never gap fight worth rule sit drive row x 2 ;".split(" ")) {
            wrong("", line, 1);
        }
        wrong("seats 2;", "seats", 1);
        wrong(TWO + STRETCH, "seats", 1);
        endsTooEarly("seats");
        endsTooEarly("seats 2");
        good("seats 2;");
    }

    /** "(2 to 4, from the left, numbers from 0)". */
    private static void seatsTwoToFour() {
        for (int seats = 2; seats <= 4; seats++) {
            MiddleSeat x = Due.on("seats " + seats + ";");
            Due.due("seats", x.count(0), seats);
        }
        for (String number : new String[] {"0", "1", "5", "9", "10", "0000", "9999"}) {
            wrong("seats ", number, 4);
        }
        MiddleSeat x = Due.on("seats 4;stretch 1 has 6 7 8 9;");
        for (int seat = 0; seat < 4; seat++) {
            Due.due("from the left", x.stretch(0, 1 + seat), 6 + seat);
        }
    }

    /** "then any number of": none, and all that can be, in any order. */
    private static void anyNumberOfLinesInAnyOrder() {
        Due.due("none", Due.on("seats 3;").plans(), 1);
        StringBuilder all = new StringBuilder("seats 4;rule ra 1;worth 1;gap 2;fight 9;rule rb 1;gap 0;");
        for (char rider = 'a'; rider <= 'd'; rider++) {
            all.append("stretch 9 has 1 1 1 1;rider ").append(rider).append(" plain dash 1 past 0;");
            for (char other = 'a'; other < rider; other++) {
                all.append("apart ").append(rider).append(' ').append(other).append(';');
            }
            for (int seat = 3; seat >= 0; seat--) {
                all.append("never ").append(rider).append(seat).append(';');
            }
        }
        all.append("rule rc 1;gap 1;rule rd 1;");
        MiddleSeat x = Due.on(all.toString());
        Due.due("stretches, riders, rules, fight", x.count(1) * 1000 + x.count(2) * 100 + x.count(3) * 10 + x.count(9), 4449);
        for (String line : "stretch rider rule".split(" ")) {
            wrong(all.toString(), line, 5);
        }
        for (String line : "fight worth".split(" ")) {
            wrong(all.toString(), line, 3);
        }
    }

    /** "stretch: 4 at most, in order": "the words stretch of a fifth". */
    private static void fourStretches() {
        for (int many = 0; many <= 4; many++) {
            Due.due("so many stretches", Due.on("seats 2;" + times(many, STRETCH)).count(1), many);
        }
        wrong("seats 2;" + times(4, STRETCH), "stretch", 5);
        MiddleSeat x = Due.on("seats 2;stretch 4 has 0 1;fight 1;stretch 3 has 2 3;stretch 2 has 4 5;worth 1;stretch 1 has 6 7;");
        for (int stretch = 0; stretch < 4; stretch++) {
            Due.due("minutes in order", x.stretch(stretch, 0), 4 - stretch);
            Due.due("left", x.stretch(stretch, 1), 2 * stretch);
            Due.due("right", x.stretch(stretch, 2), 2 * stretch + 1);
        }
    }

    /** "minutes (1 to 99)". */
    private static void minutesOneTo99() {
        Due.due("1", Due.on("seats 2;stretch 1 has 0 0;").stretch(0, 0), 1);
        Due.due("99", Due.on("seats 2;stretch 99 has 0 0;").stretch(0, 0), 99);
        wrong("seats 2;stretch ", "0", 4);
        wrong("seats 2;stretch ", "100", 4);
        wrong("seats 2;stretch ", "9999", 4);
        wrong("seats 2;stretch ", "has", 1);
        endsTooEarly("seats 2;stretch");
        endsTooEarly("seats 2;stretch 1");
    }

    /** "then of each SEAT what it has (0 to 9)": as many as there are SEATS, no fewer, no more. */
    private static void ofEachSeatWhatItHas() {
        for (int seats = 2; seats <= 4; seats++) {
            String begin = "seats " + seats + ";stretch 1 has";
            good(begin + times(seats, " 0") + ";");
            good(begin + times(seats, " 9") + ";");
            for (int right = 0; right < seats; right++) {
                wrong(begin + times(right, " 9") + " ", "10", 4);
                wrong(begin + times(right, " 0"), ";", 1);
                endsTooEarly(begin + times(right, " 0"));
            }
            wrong(begin + times(seats, " 0") + " ", "0", 1);
            endsTooEarly(begin + times(seats, " 0"));
        }
    }

    /** "rider: no more than SEATS": "rider of more than there are SEATS". */
    private static void noMoreRidersThanSeats() {
        for (int seats = 2; seats <= 4; seats++) {
            StringBuilder text = new StringBuilder("seats " + seats + ";");
            for (int riders = 0; riders < seats; riders++) {
                Due.due("so many riders", Due.on(text.toString()).count(2), riders);
                text.append("rider ").append((char) ('a' + riders)).append(" plain dash 1 past 0;");
            }
            Due.due("as many as seats", Due.on(text.toString()).count(2), seats);
            wrong(text.toString(), "rider", 5);
        }
    }

    /** "numbered as told". */
    private static void ridersAreNumberedAsTold() {
        MiddleSeat x = Due.on("seats 4;rider z plain dash 1 past 0;fight 1;rider a plain dash 2 past 1;rider m plain dash 3 past 2;"
            + "rule r 1;rider b plain dash 4 past 3;never m 3;");
        for (int rider = 0; rider < 4; rider++) {
            Due.due("dash as told", Due.rider(x, rider, 1), rider + 1);
            Due.due("past as told", Due.rider(x, rider, 2), rider);
        }
        Due.due("m is 2", x.lawful(0 * 64 + 1 * 16 + 3 * 4 + 2), 0);
        Due.due("b is 3", x.lawful(0 * 64 + 1 * 16 + 2 * 4 + 3), 1);
    }

    /** "KIND: plain, sick, sleeper, small". */
    private static void kinds() {
        String[] names = {"plain", "sick", "sleeper", "small"};
        for (int kind = 0; kind < 4; kind++) {
            Due.due(names[kind], Due.rider(Due.on("seats 2;rider a " + names[kind] + " dash 1 past 0;"), 0, 0), kind);
        }
        for (String other : "big kind sleep sleepers dash past a 1 ;".split(" ")) {
            wrong("seats 2;rider a ", other, 1);
        }
        endsTooEarly("seats 2;rider");
        endsTooEarly("seats 2;rider a");
        endsTooEarly("seats 2;rider a small");
    }

    /** "dash 1 to 9". */
    private static void dashOneTo9() {
        for (int dash = 1; dash <= 9; dash++) {
            Due.due("dash", Due.rider(Due.on("seats 2;rider a plain dash " + dash + " past 0;"), 0, 1), dash);
        }
        wrong("seats 2;rider a plain dash ", "0", 4);
        wrong("seats 2;rider a plain dash ", "10", 4);
        wrong("seats 2;rider a plain dash ", "past", 1);
        wrong("seats 2;rider a plain ", "past", 1);
        endsTooEarly("seats 2;rider a plain dash");
        endsTooEarly("seats 2;rider a plain dash 1");
    }

    /** "past 0 to 9999". */
    private static void pastZeroTo9999() {
        for (int past : new int[] {0, 1, 999, 1000, 9998, 9999}) {
            MiddleSeat x = Due.on("seats 2;rider a plain dash 1 past " + past + ";");
            Due.due("past", Due.rider(x, 0, 2), past);
            Due.due("total", Due.rider(x, 0, 4), past);
        }
        wrong("seats 2;rider a plain dash 1 past ", "10000", 1);
        wrong("seats 2;rider a plain dash 1 past ", ";", 1);
        wrong("seats 2;rider a plain dash 1 past ", "-", 1);
        endsTooEarly("seats 2;rider a plain dash 1 past");
        endsTooEarly("seats 2;rider a plain dash 1 past 0");
    }

    /** "apart: two RIDERS told, not the same": "a NAME of no RIDER", "the second one of apart that is the first one". */
    private static void apartTwoToldNotTheSame() {
        good(TWO + "apart aa bb;");
        good(TWO + "apart bb aa;");
        wrong(TWO + "apart ", "cc", 2);
        wrong(TWO + "apart aa ", "cc", 2);
        wrong(TWO + "rule cc 1;apart ", "cc", 2);
        wrong(TWO + "rule cc 1;apart bb ", "cc", 2);
        wrong(TWO + "apart aa ", "aa", 3);
        wrong(TWO + "apart bb ", "bb", 3);
        wrong("seats 2;", "apart".substring(0, 4), 1);
        wrong("seats 2;apart ", "aa", 2);
        wrong("seats 2;rider aa plain dash 1 past 0;apart aa ", "bb", 2);
        wrong(TWO + "apart aa bb ", "aa", 1);
        wrong(TWO + "apart aa", ";", 1);
        wrong(TWO + "apart ", "0", 1);
        endsTooEarly(TWO + "apart");
        endsTooEarly(TWO + "apart aa");
        endsTooEarly(TWO + "apart aa bb");
    }

    /** "each pair once": "the second one of apart that is [...] of a pair told". */
    private static void apartEachPairOnce() {
        String pairs = FOUR;
        String[] all = "a b,c a,a d,b c,d b,c d".split(",");
        for (String pair : all) {
            String one = pair.substring(0, 1);
            String other = pair.substring(2);
            good(pairs + "apart " + one + " " + other + ";");
            good(pairs + "apart " + other + " " + one + ";");
            pairs += "apart " + pair + ";";
            wrong(pairs + "apart " + one + " ", other, 3);
            wrong(pairs + "apart " + other + " ", one, 3);
        }
        for (String pair : all) {
            wrong(pairs + "apart " + pair.substring(0, 2), pair.substring(2), 3);
            wrong(pairs + "apart " + pair.substring(2) + " ", pair.substring(0, 1), 3);
        }
        MiddleSeat x = Due.on(FOUR.replace("sick", "plain") + "apart d a;apart d b;apart a c;");
        int[][] due = {{0 * 64 + 2 * 16 + 1 * 4 + 3, 0}, {0 * 64 + 1 * 16 + 2 * 4 + 3, 1}, {1 * 64 + 0 * 16 + 3 * 4 + 2, 0}, {1 * 64 + 3 * 16 + 2 * 4 + 0, 0}};
        for (int[] one : due) {
            Due.due("three pairs, lawful(" + one[0] + ")", x.lawful(one[0]), one[1]);
        }
    }

    /** "never: a RIDER told, a SEAT". */
    private static void neverARiderToldASeat() {
        for (int seats = 2; seats <= 4; seats++) {
            String begin = "seats " + seats + ";rider aa plain dash 1 past 0;never aa ";
            for (int seat = 0; seat < seats; seat++) {
                MiddleSeat x = Due.on(begin + seat + ";");
                for (int plan = 0; plan < seats; plan++) {
                    Due.due("never " + seat + ", lawful(" + plan + ")", x.lawful(plan), plan == seat ? 0 : 1);
                }
            }
            wrong(begin, "" + seats, 4);
            wrong(begin, "9999", 4);
        }
        wrong(TWO + "never ", "cc", 2);
        wrong(TWO + "rule cc 1;never ", "cc", 2);
        wrong("seats 2;never ", "aa", 2);
        wrong(TWO + "never aa ", "bb", 1);
        wrong(TWO + "never aa", ";", 1);
        endsTooEarly(TWO + "never");
        endsTooEarly(TWO + "never aa");
        endsTooEarly(TWO + "never aa 0");
    }

    /** "each pair once": "the NUMBER of never [...] told already". */
    private static void neverEachPairOnce() {
        String pairs = FOUR;
        for (String pair : "a 0,b 0,a 3,d 0,d 2,a 1,c 3,d 3".split(",")) {
            good(pairs + "never " + pair + ";");
            pairs += "never " + pair + ";";
            wrong(pairs + "never " + pair.substring(0, 1) + " ", pair.substring(2), 3);
            wrong(pairs + "never " + pair.substring(0, 1) + " ", "000" + pair.substring(2), 3);
        }
    }

    /** "gap: 0 to SEATS less 2 [...] (each once)". */
    private static void gapsUpToSeatsLessTwo() {
        for (int seats = 2; seats <= 4; seats++) {
            String gaps = "seats " + seats + ";";
            for (int gap = seats - 2; gap >= 0; gap--) {
                good(gaps + "gap " + gap + ";");
                gaps += "gap " + gap + ";";
                wrong(gaps + "gap ", "" + gap, 3);
            }
            good(gaps);
            wrong(gaps + "gap ", "" + (seats - 1), 4);
            wrong("seats " + seats + ";gap ", "" + (seats - 1), 4);
            wrong("seats " + seats + ";gap ", "" + seats, 4);
        }
        wrong("seats 2;gap ", ";", 1);
        endsTooEarly("seats 2;gap");
        endsTooEarly("seats 2;gap 0");
    }

    /** "fight 0 to 99 (0) [...] once". */
    private static void fightZeroTo99Once() {
        Due.due("not told", Due.on("seats 2;").count(9), 0);
        Due.due("0", Due.on("seats 2;fight 0;").count(9), 0);
        Due.due("99", Due.on("seats 2;fight 99;").count(9), 99);
        wrong("seats 2;fight ", "100", 4);
        wrong("seats 2;fight ", "9999", 4);
        wrong("seats 2;fight 0;", "fight", 3);
        wrong("seats 2;fight 99;worth 1;", "fight", 3);
        wrong("seats 2;fight ", "x", 1);
        endsTooEarly("seats 2;fight");
        endsTooEarly("seats 2;fight 5");
    }

    /** "worth: once each": "fight, worth a second time". */
    private static void worthOnce() {
        good("seats 2;worth 0;");
        wrong("seats 2;worth 0;", "worth", 3);
        wrong("seats 2;worth base;rule r 1;fight 1;", "worth", 3);
        wrong("seats 2;worth", ";", 1);
        endsTooEarly("seats 2;worth");
        endsTooEarly("seats 2;worth 1");
    }

    /** "rule: 4 at most, numbered as told": "rule of a fifth". */
    private static void fourRules() {
        String rules = "seats 4;stretch 1 has 0 0 0 0;rider a plain dash 1 past 0;";
        for (int rule = 0; rule < 4; rule++) {
            Due.due("so many rules", Due.on(rules).count(3), rule);
            rules += "rule r" + (char) ('d' - rule) + " " + (3 - rule) + ";";
        }
        MiddleSeat x = Due.on(rules);
        Due.due("four rules", x.count(3), 4);
        for (int rule = 0; rule < 4; rule++) {
            Due.due("as told", x.called(rule, 1), 3 - rule);
        }
        wrong(rules, "rule", 5);
        wrong("seats 2;rule ", "1", 1);
        wrong("seats 2;rule r", ";", 1);
        endsTooEarly("seats 2;rule");
        endsTooEarly("seats 2;rule r");
        endsTooEarly("seats 2;rule r 1");
    }

    /** "A NAME is another WORD than seats, stretch, has, [...]"; all others can be one. */
    private static void namesAreNoneOfTheseWords() {
        String words = "seats stretch has rider dash past apart never gap fight worth rule sit drive row"
            + " plain sick sleeper small not and or";
        for (String word : words.split(" ")) {
            wrong("seats 2;rider ", word, 1);
            wrong("seats 2;rule ", word, 1);
            wrong(TWO + "apart ", word, 1);
            wrong(TWO + "apart aa ", word, 1);
            wrong(TWO + "never ", word, 1);
            journeyWrong("sit ", word, 1);
            if (word.length() < 8) {
                good("seats 2;rider " + word + "x plain dash 1 past 0;rule x" + word + " 1;");
            }
            if (word.length() > 2) {
                good("seats 2;rider " + word.substring(1) + " plain dash 1 past 0;");
            }
        }
        for (String word : "base time kind end tip seat stop who a z zzzzzzzz".split(" ")) {
            good("seats 2;rider " + word + " plain dash 1 past 0;never " + word + " 0;");
            good("seats 2;rule " + word + " 1;");
        }
    }

    /** "no two (RIDERS, rules) are alike": "a NAME told already". */
    private static void noTwoNamesAreAlike() {
        String begin = "seats 3;rider aa plain dash 1 past 0;rule cc 1;rider bb plain dash 1 past 0;rule dd 1;";
        for (String name : "aa bb cc dd".split(" ")) {
            wrong(begin + "rider ", name, 3);
            wrong(begin + "rule ", name, 3);
        }
        good(begin + "rider a plain dash 1 past 0;rule c 1;rule aaa 1;");
    }

    /** "can't stand there": a line within a line, though it is a good one; what comes behind it is not looked at. */
    private static void noLineWithinALine() {
        String[] tokens = (TWO + STRETCH + "apart aa bb;never aa 1;gap 0;rule rr not ( 1 + 2 ) * 3 < 4 and 5;")
            .replace(";", " ; ").split(" +");
        StringBuilder before = new StringBuilder("seats 2 ; ");
        for (int i = 3; i < tokens.length; i++) {
            boolean lineEnds = tokens[i - 1].equals(";");
            for (String line : new String[] {"fight 3 ;", "worth 1 ;"}) {
                String text = before + line;
                int due = 1 + 16 * (lineEnds ? text.length() + 1 : before.length());
                Due.due("road '" + text + " %'", Due.road(new MiddleSeat(), text + " %"), due);
                Due.due("road '" + text + "'", Due.road(new MiddleSeat(), text), lineEnds ? 0 : due);
            }
            before.append(tokens[i]).append(' ');
        }
        Due.due("the whole is good", Due.road(new MiddleSeat(), before.toString()), 0);
    }

    // ---- JOURNEYS and SHARES

    /** "20 lines at most": "the first word of a 21st line of a JOURNEY". */
    private static void twentyLinesOfAJourney() {
        for (int lines : new int[] {0, 1, 19, 20}) {
            MiddleSeat x = Due.on(TWO);
            Due.due("lines", Due.journey(x, times(lines, "drive;")), 0);
            Due.due("they are", x.count(6), lines);
        }
        journeyWrong(times(20, "drive;"), "drive", 5);
        journeyWrong(times(20, "sit aa 0;"), "sit", 5);
        journeyWrong(times(19, "sit aa 0;") + "drive;", "sit cc", 5);
        journeyWrong(times(20, "drive;"), ";", 1);
        journeyWrong(times(20, "drive;"), "row", 1);
        journeyWrong(times(20, "drive;"), "12345", 1);
        journeyWrong(times(20, "drive;") + "\n \n", "drive", 5);
        MiddleSeat x = Due.on(TWO);
        Due.journey(x, times(20, "drive;"));
        Due.due("a fault", Due.journey(x, times(21, "drive;")), 5 + 16 * 120);
        Due.due("the old one stays", x.count(6), 20);
    }

    /** "sit NAME N ;   (a RIDER told, a SEAT)   drive ;". */
    private static void sitOfARiderToldOnASeat() {
        MiddleSeat x = Due.on(TWO);
        Due.due("both riders, both seats", Due.journey(x, "sit aa 0;sit aa 1;sit bb 0;sit bb 0001;"), 0);
        journeyWrong("sit aa ", "2", 4);
        journeyWrong("sit aa ", "9999", 4);
        journeyWrong("sit ", "cc", 2);
        journeyWrong("sit ", "r", 2);
        journeyWrong("sit ", "0", 1);
        journeyWrong("sit ", ";", 1);
        journeyWrong("sit aa", ";", 1);
        journeyWrong("sit aa 0 ", "0", 1);
        journeyWrong("drive ", "aa", 1);
        journeyWrong("drive;", "seats", 1);
        journeyWrong("sit", "", 1);
        journeyWrong("sit aa", "", 1);
        journeyWrong("sit aa 0", "", 1);
        journeyWrong("drive", "", 1);
        for (int seats = 2; seats <= 4; seats++) {
            MiddleSeat y = Due.on("seats " + seats + ";rider a plain dash 1 past 0;");
            Due.due("the last seat", Due.journey(y, "sit a " + (seats - 1) + ";"), 0);
            Due.due("none", Due.journey(y, "sit a " + seats + ";"), 4 + 16 * 6);
        }
        Due.due("nobody told", Due.journey(new MiddleSeat(), "sit a 0;"), 2 + 16 * 4);
    }

    /** "SHARES: for each RIDER, in order, row": "something behind the last row of SHARES". */
    private static void rowsForEachRiderInOrder() {
        for (int riders = 0; riders <= 4; riders++) {
            String four = "seats 4;";
            for (int rider = 0; rider < riders; rider++) {
                four += "rider " + (char) ('a' + rider) + " plain dash 1 past 0;";
            }
            for (int rows = 0; rows <= 5; rows++) {
                MiddleSeat x = Due.on(four);
                int due = rows == riders ? 0 : 1 + 16 * 12 * Math.min(rows, riders);
                Due.due(rows + " rows of " + riders, Due.shares(x, times(rows, "row 1 2 3 4;")), due);
                Due.due("are there shares", x.count(7), rows == riders ? 1 : 0);
            }
        }
        sharesWrong("row 0 0;row 0 0;", "drive", 1);
        sharesWrong("row 0 0;row 0 0;", ";", 1);
        sharesWrong("row 0 0;row 0 0;", "0", 1);
        sharesWrong("row 0 0;row 0 0;\n", "#", 1);
        sharesWrong("row 0 0;", "sit", 1);
        MiddleSeat x = Due.on("seats 2;stretch 5 has 0 0;rider a plain dash 1 past 0;rider b plain dash 1 past 0;");
        Due.shares(x, "row 0 5;row 5 0;\n ");
        Due.due("in order", x.pieces(0, 0), 4);
    }

    /** "of each SEAT minutes (0 to 99)". */
    private static void rowsOfEachSeatZeroTo99() {
        MiddleSeat x = Due.on(TWO);
        Due.due("0 and 99", Due.shares(x, "row 0 99;row 99 0;"), 0);
        sharesWrong("row ", "100", 4);
        sharesWrong("row 0 ", "100", 4);
        sharesWrong("row 0 0;row 99 ", "9999", 4);
        sharesWrong("row 0", ";", 1);
        sharesWrong("row 0 0 ", "0", 1);
        sharesWrong("row 0 0;row 0", "", 1);
        sharesWrong("row 0 0;row 0 0", "", 1);
        sharesWrong("row", "", 1);
        sharesWrong("", "", 1);
        for (int seats = 2; seats <= 4; seats++) {
            MiddleSeat y = Due.on("seats " + seats + ";rider a plain dash 1 past 0;");
            Due.due("one too few", Due.shares(y, "row" + times(seats - 1, " 7") + ";"), 1 + 16 * (1 + 2 * seats));
            Due.due("one too many", Due.shares(y, "row" + times(seats + 1, " 7") + ";"), 1 + 16 * (4 + 2 * seats));
            Due.due("just as many", Due.shares(y, "row" + times(seats, " 7") + ";"), 0);
        }
    }

    // ---- Es

    /** "TEST: SUM, or SUM < SUM, or SUM = SUM". */
    private static void oneTestHasOneComparison() {
        worthIs("1<2", 1);
        worthIs("2<2", 0);
        worthIs("3<2", 0);
        worthIs("2=2", 1);
        worthIs("2=3", 0);
        worthIs("(1<2)<2", 1);
        worthIs("1<2 and 2=2", 1);
        worthIs("5", 5);
        for (String first : new String[] {"1<2", "1=2", "(1<2)=1"}) {
            wrong("seats 2;worth " + first + " ", "<", 1);
            wrong("seats 2;worth " + first + " ", "=", 1);
            good("seats 2;worth " + first + " and " + first + " or 1;");
            good("seats 2;worth " + first + "+1;");
        }
    }

    /** "from the left": E, SUM and PRODUCT; "PRODUCT { + or - PRODUCT }", "PART { * PART }". */
    private static void fromTheLeft() {
        worthIs("0 and 0 or 1", 1);
        worthIs("1 or 1 and 0", 0);
        worthIs("1 or (1 and 0)", 1);
        worthIs("0 or 0 or 7", 1);
        worthIs("9-3-2", 4);
        worthIs("9-(3-2)", 8);
        worthIs("9-3+2", 8);
        worthIs("2+3*4", 14);
        worthIs("2*3+4", 10);
        worthIs("20-2*3*3", 2);
        worthIs("not 1+5", 5);
        worthIs("not 0*5", 5);
        worthIs("not (0*5)", 1);
        worthIs("3*not 0", 3);
        worthIs("1+1<1+2", 1);
        worthIs("2*2=5-1", 1);
        worthIs("1<2 and 3", 1);
        worthIs("0-1 and 0-2", 1);
    }

    /** "no PART lies within 5 of not and ( )": "not, or a PART, within 5 others". */
    private static void noPartWithinFive() {
        String[] fours = {"((((", "not not not not ", "not(not(", "(not not(", "(((not "};
        for (String four : fours) {
            String close = times((int) four.chars().filter(c -> c == '(').count(), ")");
            good("seats 2;worth " + four + "7" + close + ";");
            good("seats 2;worth " + four + "tip" + close + "*" + four + "1" + close + "<" + four + "2" + close + ";");
            for (String fifth : new String[] {"(", "not "}) {
                for (String part : new String[] {"1", "(", "not", "time", "9999"}) {
                    wrong("seats 2;worth " + four + fifth, part, 5);
                    wrong("seats 2;worth 1+" + four + fifth, part, 5);
                }
                for (String none : new String[] {")", ";", "*", "and", "seat", "x", "12345", "has", "%"}) {
                    wrong("seats 2;worth " + four + fifth, none, 1);
                }
            }
            wrong("seats 2;rule r " + four + "(", "who", 5);
            wrong("seats 2;rule r " + four + "(", "tip", 1);
            if (four.endsWith("(")) {
                wrong("seats 2;worth " + four + "1+not ", "1", 5);
            } else {
                good("seats 2;worth " + four + "1" + close + "+not 1;");
            }
            endsTooEarly("seats 2;worth " + four + "(");
            endsTooEarly("seats 2;worth " + four + "1" + close);
        }
        worthIs("((((7))))+((((2))))", 9);
        worthIs("not not not not 7", 1);
        worthIs("not(not(7))", 1);
    }

    /** "Facts: of worth base [...]; of a rule seat, stop [...], who [...]". */
    private static void factsOfWorthAndOfRules() {
        for (String fact : "base time kind end tip".split(" ")) {
            good("seats 2;worth " + fact + ";");
            wrong("seats 2;rule r ", fact, 1);
            wrong("seats 2;rule r 1+", fact, 1);
        }
        for (String fact : "seat stop who".split(" ")) {
            good("seats 2;rule r " + fact + ";");
            wrong("seats 2;worth ", fact, 1);
            wrong("seats 2;worth 1+", fact, 1);
        }
        worthIs("base*1", 4);
        worthIs("time", 10);
        worthIs("kind", 3);
        worthIs("end", 1);
        worthIs("tip", 0);
        ruleGoesTo("stop", 1);
        ruleGoesTo("seat+2*stop", 2);
        ruleGoesTo("who", 0);
        wrong(TWO + "worth ", "aa", 1);
        wrong(TWO + "rule r ", "r", 1);
    }

    /** "Of not, and, or, < and = comes 1 or 0; what is not 0 is so". */
    private static void oneOrZero() {
        worthIs("not 0", 1);
        worthIs("not 1", 0);
        worthIs("not 7", 0);
        worthIs("not (0-1)", 0);
        worthIs("not not 7", 1);
        worthIs("7 and 9", 1);
        worthIs("7 and 0", 0);
        worthIs("0 and 7", 0);
        worthIs("0 and 0", 0);
        worthIs("7 or 9", 1);
        worthIs("7 or 0", 1);
        worthIs("0 or 7", 1);
        worthIs("0 or 0", 0);
        worthIs("0-5 or 0", 1);
        worthIs("9<10", 1);
        worthIs("0-1<0", 1);
        worthIs("0-2<0-1", 1);
        worthIs("0<0-1", 0);
        worthIs("10<9", 0);
        worthIs("7=7", 1);
        worthIs("5 and 3+4", 1);
        worthIs("8192*8192*64 or 0", 0);
    }

    /** "ints wrap": 8192 * 8192 * 32 is the first that is too much. */
    private static void intsWrap() {
        worthIs("8192*8192*32<0", 1);
        worthIs("8192*8192*32-1", 999);
        worthIs("8192*8192*32-1<0", 0);
        worthIs("0-8192*8192*32=8192*8192*32", 1);
        worthIs("8192*8192*64", 0);
        worthIs("8192*8192*64+5", 5);
        worthIs("0-8192*8192*32-1", 999);
        worthIs("9999*9999*9999*9999", Math.max(0, Math.min(999, 9999 * 9999 * 9999 * 9999)));
        worthIs("9999*9999*43+7", Math.max(0, Math.min(999, 9999 * 9999 * 43 + 7)));
        ruleGoesTo("8192*8192*32", Math.floorMod(Integer.MIN_VALUE, 3));
        ruleGoesTo("8192*8192*32-1", Math.floorMod(Integer.MAX_VALUE, 3));
        ruleGoesTo("8192*8192*64+2", 2);
        ruleGoesTo("0-1", 2);
    }

    /** "Without worth: base * time". */
    private static void withoutWorthBaseTimesTime() {
        MiddleSeat x = Due.on("seats 4;stretch 99 has 0 1 8 9;rider a sleeper dash 1 past 0;");
        int[] due = {0, 99, 792, 891};
        for (int seat = 0; seat < 4; seat++) {
            Due.due("99 minutes on " + seat, x.worth(seat, 0, 0), due[seat]);
        }
    }

    // ---- FAULTS

    /** "the end being one at the text's length": blanks at last count. */
    private static void theEndIsATokenAtTheLength() {
        for (String text : new String[] {"seats", "seats 2", "seats 2;rule", "seats 2;worth (", "seats 2;worth not", "seats 2;gap 0"}) {
            endsTooEarly(text);
            endsTooEarly(text + " ");
            endsTooEarly(text + "\n  \n");
        }
        MiddleSeat x = Due.on(TWO);
        Due.due("of a journey", Due.journey(x, "drive; drive  "), 1 + 16 * 14);
        Due.due("of shares", Due.shares(x, "row 0 0;  "), 1 + 16 * 10);
    }

    /** "kind + 16 * the place (from 0) of a token". */
    private static void placesUpToTheLastSign() {
        for (int place : new int[] {0, 1, 2, 15, 16, 17, 255, 256, 998, 999}) {
            Due.due("at " + place, fed(place, "%").road(), 1 + 16 * place);
        }
        for (int place : new int[] {6, 7, 100, 998, 999}) {
            Due.due("seats at " + place, Due.road(new MiddleSeat(), "seats" + times(place - 5, " ") + "5"), 4 + 16 * place);
        }
        String full = "seats 2;" + times(985, " ") + "worth 1";
        Due.due("so many signs", full.length(), 1000);
        endsTooEarly(full);
        Due.due("one sign is beyond", Due.road(new MiddleSeat(), full + ";"), 1 + 16 * 1000);
    }

    /** "of the first token from the left that is wrong the least". */
    private static void theLeastOfSeveralFaults() {
        wrong(TWO + "rule r 1;apart ", "r", 2);
        wrong(TWO + "apart aa bb;apart bb ", "bb", 3);
        wrong("seats 2;stretch ", "12345", 1);
        wrong("seats 2;rule r (((((", "base", 1);
        wrong("seats 2;rule r (((((", "12345", 1);
        wrong(TWO, "rider aa", 5);
        wrong(TWO, "rider seats", 5);
        wrong("seats 2;rule a 1;rule b 1;rule c 1;rule d 1;", "rule a", 5);
        wrong("seats 2;" + times(4, STRETCH), "stretch 0", 5);
        wrong("seats 2;fight 1;", "fight 100", 3);
        wrong("seats 2;worth 1;", "worth %", 3);
        wrong("seats ", "9 %", 4);
        wrong("seats 2;rider ", "rider %", 1);
        journeyWrong(times(20, "drive;"), "seats", 1);
        journeyWrong(times(20, "drive;"), "sit %", 5);
        journeyWrong("sit ", "cc 9", 2);
        sharesWrong("row ", "100 %", 4);
    }

    /** "0, or its FAULT (all stays then)", "likewise". */
    private static void aFaultChangesNothing() {
        MiddleSeat x = Snapshot.busy();
        String before = Snapshot.of(x);
        String road = Snapshot.ROAD.replace("seats 3", "seats 4").replace("has 5 0 3", "has 9 9 9 9");
        Due.due("a road with a fault at last", Due.road(x, road) % 16, 1);
        Due.due("a road with a fault at its end", Due.road(x, "seats 2;stretch 9 has 1 1;rider q sick dash 9 past 9;worth 1"), 1 + 16 * 60);
        Due.due("a journey with a fault at its end", Due.journey(x, "drive;sit ann 0;drive"), 1 + 16 * 21);
        Due.due("shares with a fault at their end", Due.shares(x, "row 9 9 9;row 8 8 8;row 7 7 7"), 1 + 16 * 29);
        Due.due("all stays", Snapshot.of(x).equals(before), true);
        Due.due("the mark, too", x.mark(2, true), true);
        Due.due("what is on it", x.count(4) * 100 + x.count(5) * 10 + x.count(8), 130);
    }

    /** "Without a FAULT a ROAD is the ROAD from then on: nobody sits, stretch 0 to come, [...] no MARK is there." */
    private static void aRoadWithoutFaultIsAllNew() {
        MiddleSeat x = Snapshot.busy();
        Due.due("the same road", Due.road(x, Snapshot.ROAD), 0);
        Due.due("all is new", Snapshot.of(x).equals(Snapshot.of(Due.on(Snapshot.ROAD))), true);
        for (int mark = 0; mark < 4; mark++) {
            Due.due("no mark " + mark, x.mark(mark, true), false);
        }
        Due.due("nothing to undo", x.undo(), false);
        Due.due("the least road", Due.road(x, "seats 2;"), 0);
        Due.due("as at first", Snapshot.of(x).equals(Snapshot.of(new MiddleSeat())), true);
    }
}
