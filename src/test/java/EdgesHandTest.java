/**
 * Promises 1, 6 to 14, 24, 27 and 28: a method for each sentence of the document about what was told, PLANS,
 * journeys by hand, told ones, what is SEEN, MARKS and counts that names an edge.
 */
public final class EdgesHandTest {
    private static final int[] NO_INDEX = {-1, -2, 4, 5, Integer.MIN_VALUE, Integer.MAX_VALUE, 1 << 16, 1 << 29};
    private static final String STRETCH = "stretch 10 has 1 2 3;";
    private static final String LONG = "seats 3;" + STRETCH.repeat(4) + "rider a plain dash 1 past 100;"
        + "rider b small dash 1 past 200;fight 7;";

    private EdgesHandTest() {
    }

    public static void main(String[] args) {
        aNewObjectHasTwoSeatsNothingElse();
        aNewObjectRefusesWhatNeedsMore();
        noSuchRider();
        riderWhat();
        seatNowAndTotalNow();
        stretchWhat();
        noSuchStretch();
        eachRiderOnAnotherSeat();
        riderZeroIsTheHighestDigit();
        noPlanOfNobodyBut0();
        besideButForGaps();
        nobodySitsWhereHeNeverDoes();
        theSickAreAtAnEnd();
        noTwoApartBesideOneAnother();
        worthFrom0To999();
        worthOfOthers();
        endIsTheFirstOrTheLastSeat();
        tipIsHowManySleepersSitBeside();
        howManyLawfulPlans();
        sitOnAFreeSeatOrNot();
        heSitsThere();
        sitOfOthers();
        sitAtHome();
        allRidersSitByALawfulPlan();
        aStretchIsToCome();
        eachHasHisWorthMore();
        fightButAtFirst();
        nobodyDrives();
        theLastSixteen();
        undoOneByOne();
        onlySitAndDriveCanBeUndone();
        theFirstLineThatCantBe();
        sitCanAlways();
        linesThatCantBeAreLeftOut();
        judgedFromTheBegin();
        judgedOthers();
        tenAreSeen();
        seeOthers();
        marks0To3();
        nothingIsOnIt();
        whatAMarkHolds();
        whatIsSeenOnAMark();
        whatAMarkDoesNotHold();
        nothingCanBeUndoneThen();
        countWhat();
        countOthers();
        whatOnlyAsksChangesNothing();
        fiveHundredAndTwelveCalls();
        Due.end();
    }

    private static MiddleSeat sitting(String road, int... seats) {
        MiddleSeat x = Due.on(road);
        for (int rider = 0; rider < seats.length; rider++) {
            x.sit(rider, seats[rider]);
        }
        return x;
    }

    private static void seatsAre(String what, MiddleSeat x, int... seats) {
        for (int rider = 0; rider < seats.length; rider++) {
            Due.due(what + ": seat of " + rider, Due.rider(x, rider, 3), seats[rider]);
        }
    }

    private static void totalsAre(String what, MiddleSeat x, int... totals) {
        for (int rider = 0; rider < totals.length; rider++) {
            Due.due(what + ": total of " + rider, Due.rider(x, rider, 4), totals[rider]);
        }
    }

    private static String riders(int many, String kind) {
        StringBuilder text = new StringBuilder();
        for (int rider = 0; rider < many; rider++) {
            text.append("rider ").append((char) ('a' + rider)).append(' ').append(kind).append(" dash 1 past 0;");
        }
        return text.toString();
    }

    // ---- promise 1

    /** "Seats 2, nothing else." */
    private static void aNewObjectHasTwoSeatsNothingElse() {
        MiddleSeat x = new MiddleSeat();
        Due.due("seats", x.count(0), 2);
        for (int what = 1; what < 12; what++) {
            Due.due("count(" + what + ")", x.count(what), 0);
        }
        Due.due("one plan, of nobody", x.plans(), 1);
        Due.due("it is lawful", x.lawful(0), 1);
        Due.due("none else", x.lawful(1), -1);
        Due.due("one journey fits", x.fits(0), 1);
        Due.due("no stop in all", x.fits(1), 0);
        Due.due("no stop in none", x.fits(2), 0);
        Due.due("no line that can't be", x.judged(-1), -1);
        Due.due("NONE", MiddleSeat.NONE, -1);
        Due.due("a journey without lines", x.journey(), 0);
        Due.due("shares of nobody", x.shares(), 0);
        Due.due("two objects are two", new MiddleSeat().count(7), 0);
    }

    /** Whatever needs a RIDER, a SEAT of his, a stretch or a rule is refused. */
    private static void aNewObjectRefusesWhatNeedsMore() {
        MiddleSeat x = new MiddleSeat();
        Due.due("rider", Due.rider(x, 0, 0), Due.THREW);
        Due.due("stretch", x.stretch(0, 0), -1);
        Due.due("worth", x.worth(0, 0, 0), -1);
        Due.due("sit", x.sit(0, 0), -2);
        Due.due("drive", x.drive(), -1);
        Due.due("undo", x.undo(), false);
        Due.due("judged", x.judged(0), -99999);
        Due.due("evenest", x.evenest(0, 0), -1);
        Due.due("most", Due.most(x, -1), Due.THREW);
        Due.due("worst", Due.worst(x), Due.THREW);
        Due.due("after", x.after(), -1);
        Due.due("pieces", x.pieces(0, -1), -2);
        Due.due("toffees", x.toffees(0, -1), -2);
        Due.due("door", x.door(0, 0, 0, 0), -1);
        Due.due("called", x.called(0, 0), -1);
        Due.due("fairest", x.fairest(), -1);
        Due.due("see", x.see(0, 0, 0, true), false);
        Due.due("fits(3)", x.fits(3), -1);
        Due.due("years", x.years(0, 1, 0), -1);
        Due.due("mark back", x.mark(0, true), false);
        Due.due("road", x.road(), 1);
    }

    // ---- promises 6 and 7

    /** "NoSuchElementException: no such RIDER", whatever is asked. */
    private static void noSuchRider() {
        for (int riders = 0; riders <= 4; riders++) {
            MiddleSeat x = Due.on("seats 4;" + riders(riders, "small"));
            for (int rider = 0; rider <= 4; rider++) {
                Due.due("rider " + rider + " of " + riders, Due.rider(x, rider, 0), rider < riders ? 3 : Due.THREW);
                Due.due("nothing of him", Due.rider(x, rider, 99), rider < riders ? -1 : Due.THREW);
            }
            for (int rider : NO_INDEX) {
                Due.due("rider " + rider, Due.rider(x, rider, 0), Due.THREW);
                Due.due("nothing of rider " + rider, Due.rider(x, rider, rider), Due.THREW);
            }
        }
    }

    /** "Of a RIDER, what 0: KIND, 1: dash, 2: past, [...] NONE: others". */
    private static void riderWhat() {
        MiddleSeat x = Due.on("seats 2;rider a plain dash 1 past 0;rider b small dash 9 past 9999;");
        int[][] due = {{0, 1, 0, -1, 0}, {3, 9, 9999, -1, 9999}};
        for (int rider = 0; rider < 2; rider++) {
            for (int what = 0; what < 5; what++) {
                Due.due("rider(" + rider + ", " + what + ")", Due.rider(x, rider, what), due[rider][what]);
            }
            for (int what : new int[] {-1, -2, 5, 6, Integer.MIN_VALUE, Integer.MAX_VALUE}) {
                Due.due("rider(" + rider + ", " + what + ")", Due.rider(x, rider, what), -1);
            }
        }
    }

    /** "3: his SEAT now (NONE: none), 4: total now". */
    private static void seatNowAndTotalNow() {
        MiddleSeat x = Due.on(LONG);
        seatsAre("nobody sits", x, -1, -1);
        x.sit(0, 0);
        seatsAre("one does, on the first", x, 0, -1);
        x.sit(1, 2);
        totalsAre("past", x, 100, 200);
        x.drive();
        seatsAre("they stay", x, 0, 2);
        totalsAre("now", x, 110, 230);
        Due.due("the past is past", Due.rider(x, 0, 2) * 1000 + Due.rider(x, 1, 2), 100200);
    }

    /** "Of a stretch, what 0: minutes, 1 + s: what SEAT s has; NONE: others". */
    private static void stretchWhat() {
        for (int seats = 2; seats <= 4; seats++) {
            MiddleSeat x = Due.on("seats " + seats + ";stretch 99 has" + " 9 0 8 7".substring(0, 2 * seats) + ";");
            int[] due = {99, 9, 0, 8, 7};
            for (int what = 0; what <= 5; what++) {
                Due.due("stretch(0, " + what + ") of " + seats, x.stretch(0, what), what <= seats ? due[what] : -1);
            }
            for (int what : new int[] {-1, -2, Integer.MIN_VALUE, Integer.MAX_VALUE, Integer.MAX_VALUE - 1}) {
                Due.due("stretch(0, " + what + ")", x.stretch(0, what), -1);
            }
        }
    }

    /** Of no stretch there is nothing. */
    private static void noSuchStretch() {
        for (int many = 0; many <= 4; many++) {
            MiddleSeat x = Due.on("seats 3;" + STRETCH.repeat(many));
            for (int stretch = 0; stretch <= 4; stretch++) {
                Due.due("stretch " + stretch + " of " + many, x.stretch(stretch, 3), stretch < many ? 3 : -1);
            }
            for (int stretch : NO_INDEX) {
                Due.due("stretch " + stretch, x.stretch(stretch, 0), -1);
            }
        }
    }

    // ---- promises 8 to 10

    /** "A PLAN of a stretch: each RIDER on another SEAT: digits to the base of 4": all numbers there can be, and others. */
    private static void eachRiderOnAnotherSeat() {
        for (int seats = 2; seats <= 4; seats++) {
            for (int riders = 0; riders <= seats; riders++) {
                MiddleSeat x = Due.on("seats " + seats + ";stretch 1 has" + " 0".repeat(seats) + ";" + riders(riders, "plain"));
                int many = 0;
                for (int plan = 0; plan < 300; plan++) {
                    boolean is = isPlan(plan, riders, seats);
                    Due.due("lawful(" + plan + ")", x.lawful(plan), is ? 1 : -1);
                    Due.due("worth(" + plan + ")", x.worth(plan, 0, 0), is && riders > 0 ? 0 : -1);
                    many += is ? 1 : 0;
                }
                Due.due("plans of " + riders + " on " + seats, x.plans(), many);
                for (int plan : new int[] {-1, -2, 1024, 1 << 16, 1 << 30, Integer.MIN_VALUE, Integer.MIN_VALUE + 1, Integer.MAX_VALUE}) {
                    Due.due("lawful(" + plan + ")", x.lawful(plan), -1);
                    Due.due("worth(" + plan + ")", x.worth(plan, 0, 0), -1);
                }
            }
        }
    }

    private static boolean isPlan(int plan, int riders, int seats) {
        StringBuilder digits = new StringBuilder(plan == 0 ? "" : Integer.toString(plan, 4));
        while (digits.length() < riders) {
            digits.insert(0, '0');
        }
        boolean good = digits.length() == riders;
        for (int i = 0; i < digits.length(); i++) {
            good &= digits.charAt(i) - '0' < seats && digits.indexOf("" + digits.charAt(i)) == i;
        }
        return good;
    }

    /** "RIDER 0's the highest". */
    private static void riderZeroIsTheHighestDigit() {
        MiddleSeat x = Due.on("seats 4;stretch 1 has 1 3 5 7;" + riders(4, "plain"));
        for (int rider = 0; rider < 4; rider++) {
            Due.due("in order", x.worth(0 * 64 + 1 * 16 + 2 * 4 + 3, rider, 0), 1 + 2 * rider);
            Due.due("the other way", x.worth(3 * 64 + 2 * 16 + 1 * 4 + 0, rider, 0), 7 - 2 * rider);
        }
        MiddleSeat three = Due.on("seats 4;stretch 1 has 1 3 5 7;" + riders(3, "plain"));
        Due.due("three digits", three.worth(3 * 16 + 0 * 4 + 2, 0, 0), 7);
        Due.due("the lowest", three.worth(3 * 16 + 0 * 4 + 2, 2, 0), 5);
    }

    /** Of nobody there is one PLAN, which is LAWFUL. */
    private static void noPlanOfNobodyBut0() {
        MiddleSeat x = Due.on("seats 4;stretch 1 has 1 1 1 1;gap 0;");
        Due.due("it", x.lawful(0), 1);
        Due.due("plans", x.plans(), 1);
        for (int plan : new int[] {1, 2, 3, 4, 27, -1}) {
            Due.due("no plan", x.lawful(plan), -1);
        }
    }

    /** "BESIDE are SEATS next to each other, but for gaps". */
    private static void besideButForGaps() {
        for (int gaps = 0; gaps < 8; gaps++) {
            StringBuilder text = new StringBuilder("seats 4;" + riders(2, "plain") + "apart a b;");
            for (int gap = 0; gap < 3; gap++) {
                text.append((gaps >> gap & 1) != 0 ? "gap " + gap + ";" : "");
            }
            MiddleSeat x = Due.on(text.toString());
            for (int left = 0; left < 4; left++) {
                for (int right = left + 1; right < 4; right++) {
                    boolean beside = right == left + 1 && (gaps >> left & 1) == 0;
                    Due.due("gaps " + gaps + ": " + left + " " + right, x.lawful(4 * left + right), beside ? 0 : 1);
                    Due.due("gaps " + gaps + ": " + right + " " + left, x.lawful(4 * right + left), beside ? 0 : 1);
                }
            }
        }
    }

    /** "It is LAWFUL if nobody sits where he never does". */
    private static void nobodySitsWhereHeNeverDoes() {
        MiddleSeat x = Due.on("seats 3;" + riders(2, "plain") + "never a 0;never b 2;");
        int[][] due = {{0, 1, 0}, {0, 2, 0}, {1, 0, 1}, {1, 2, 0}, {2, 0, 1}, {2, 1, 1}};
        for (int[] one : due) {
            Due.due("a on " + one[0] + ", b on " + one[1], x.lawful(4 * one[0] + one[1]), one[2]);
        }
        Due.due("three", x.plans(), 3);
    }

    /** "the sick are at an end (the first, the last SEAT)", of a gap or not. */
    private static void theSickAreAtAnEnd() {
        for (int seats = 2; seats <= 4; seats++) {
            MiddleSeat x = Due.on("seats " + seats + ";rider a sick dash 1 past 0;gap 0;");
            for (int seat = 0; seat < seats; seat++) {
                Due.due("sick on " + seat + " of " + seats, x.lawful(seat), seat == 0 || seat == seats - 1 ? 1 : 0);
            }
            Due.due("two ends", x.plans(), 2);
            Due.due("all sick", Due.on("seats " + seats + ";" + riders(seats, "sick")).plans(), seats == 2 ? 2 : 0);
            for (String kind : "plain sleeper small".split(" ")) {
                Due.due("anywhere", Due.on("seats " + seats + ";" + riders(1, kind)).plans(), seats);
            }
        }
    }

    /** "no two who are apart sit beside one another". */
    private static void noTwoApartBesideOneAnother() {
        Due.due("two on two", Due.on("seats 2;" + riders(2, "plain") + "apart a b;").plans(), 0);
        Due.due("with a gap", Due.on("seats 2;" + riders(2, "plain") + "apart a b;gap 0;").plans(), 2);
        Due.due("two on three", Due.on("seats 3;" + riders(2, "plain") + "apart b a;").plans(), 2);
        Due.due("three on three, the third between", Due.on("seats 3;" + riders(3, "plain") + "apart a c;").plans(), 2);
        Due.due("two pairs", Due.on("seats 4;" + riders(4, "plain") + "apart a b;apart c d;").plans(), 8);
        Due.due("all apart", Due.on("seats 4;" + riders(3, "plain") + "apart a b;apart c b;apart a c;").plans(), 0);
        Due.due("not told, not apart", Due.on("seats 2;" + riders(2, "plain")).plans(), 2);
    }

    /** "the E of worth (0 if it is below, 999 above)". */
    private static void worthFrom0To999() {
        String[] laws = {"0-9999", "0-1", "0", "1", "998", "999", "999+1", "1000", "9999", "8192*8192*32", "8192*8192*32-1"};
        int[] due = {0, 0, 0, 1, 998, 999, 999, 999, 999, 0, 999};
        for (int i = 0; i < laws.length; i++) {
            MiddleSeat x = sitting("seats 2;stretch 1 has 1 1;rider a plain dash 1 past 0;worth " + laws[i] + ";", 0);
            Due.due("worth " + laws[i], x.worth(0, 0, 0), due[i]);
            x.drive();
            totalsAre("worth " + laws[i], x, due[i]);
            Due.due("most by " + laws[i], Due.most(x, -1), due[i]);
        }
    }

    /** "NONE: others": no PLAN, no RIDER, no stretch. */
    private static void worthOfOthers() {
        MiddleSeat x = Due.on(LONG);
        Due.due("the first", x.worth(1, 0, 0), 10);
        Due.due("the last", x.worth(9, 1, 3), 20);
        for (int none : NO_INDEX) {
            Due.due("rider " + none, x.worth(1, none, 0), -1);
            Due.due("stretch " + none, x.worth(1, 0, none), -1);
        }
        Due.due("rider 2 of 2", x.worth(1, 2, 0), -1);
        Due.due("two on one seat", x.worth(5, 0, 0), -1);
        Due.due("no seat 3", x.worth(3, 0, 0), -1);
        Due.due("too high", x.worth(16, 0, 0), -1);
        Due.due("below", x.worth(-1, 0, 0), -1);
        MiddleSeat apart = Due.on(LONG + "apart a b;");
        Due.due("unlawful, but a plan", apart.worth(1, 0, 0), 10);
    }

    /** "end (1: the first or the last SEAT)". */
    private static void endIsTheFirstOrTheLastSeat() {
        for (int seats = 2; seats <= 4; seats++) {
            MiddleSeat x = Due.on("seats " + seats + ";stretch 1 has" + " 0".repeat(seats) + ";rider a plain dash 1 past 0;gap 0;worth end;");
            for (int seat = 0; seat < seats; seat++) {
                Due.due("end of " + seats, x.worth(seat, 0, 0), seat == 0 || seat == seats - 1 ? 1 : 0);
            }
        }
    }

    /** "tip (how many sleepers sit beside)": none, one, two; not he himself, not over a gap, nobody else. */
    private static void tipIsHowManySleepersSitBeside() {
        String text = "seats 3;stretch 1 has 0 0 0;rider a sleeper dash 1 past 0;rider b sleeper dash 1 past 0;rider c sleeper dash 1 past 0;worth tip;";
        int straight = 0 * 16 + 1 * 4 + 2;
        int[] due = {1, 2, 1};
        for (int rider = 0; rider < 3; rider++) {
            Due.due("all sleep", Due.on(text).worth(straight, rider, 0), due[rider]);
            Due.due("gap 0", Due.on(text + "gap 0;").worth(straight, rider, 0), rider == 0 ? 0 : 1);
            Due.due("gaps", Due.on(text + "gap 0;gap 1;").worth(straight, rider, 0), 0);
        }
        for (String kind : "plain sick small".split(" ")) {
            MiddleSeat x = Due.on("seats 2;stretch 1 has 0 0;" + riders(2, kind) + "worth tip;");
            Due.due("no sleeper", x.worth(1, 0, 0), 0);
        }
        MiddleSeat alone = Due.on("seats 2;stretch 1 has 0 0;rider a sleeper dash 1 past 0;worth tip;");
        Due.due("alone", alone.worth(0, 0, 0) + alone.worth(1, 0, 0), 0);
    }

    /** "How many LAWFUL PLANS there are": none, and all. */
    private static void howManyLawfulPlans() {
        int[][] due = {{1, 2, 2}, {1, 3, 6, 6}, {1, 4, 12, 24, 24}};
        for (int seats = 2; seats <= 4; seats++) {
            for (int riders = 0; riders <= seats; riders++) {
                int plans = Due.on("seats " + seats + ";" + riders(riders, "small")).plans();
                Due.due("plans of " + riders + " on " + seats, plans, due[seats - 2][riders]);
            }
        }
        Due.due("none", Due.on("seats 2;" + riders(1, "plain") + "never a 0;never a 1;").plans(), 0);
        Due.due("none of the sick", Due.on("seats 3;" + riders(1, "sick") + "never a 0;never a 2;").plans(), 0);
        Due.due("without stretches, too", Due.on("seats 2;").plans(), 1);
    }

    // ---- promises 11 to 14

    /** "SIT: a RIDER on a SEAT, free or not (who sat there gets his, or none if he had none)". */
    private static void sitOnAFreeSeatOrNot() {
        MiddleSeat x = Due.on("seats 4;" + riders(4, "plain"));
        Due.due("free", x.sit(0, 3), -1);
        seatsAre("he sits", x, 3, -1, -1, -1);
        Due.due("not free, he had none", x.sit(3, 3), 0);
        seatsAre("so the other has none", x, -1, -1, -1, 3);
        Due.due("free again", x.sit(0, 0), -1);
        Due.due("not free, he had one", x.sit(3, 0), 0);
        seatsAre("so the other gets his", x, 3, -1, -1, 0);
        Due.due("his own is free then", x.sit(3, 1), -1);
        Due.due("nobody sits there", x.sit(2, 0), -1);
        seatsAre("three sit", x, 3, -1, 0, 1);
        Due.due("six times", x.count(10), 6);
        Due.due("who sit", x.count(5), 3);
    }

    /** "-2: others, he sits there": then nothing is done. */
    private static void heSitsThere() {
        MiddleSeat x = Due.on(LONG);
        x.sit(0, 2);
        Due.due("he sits there", x.sit(0, 2), -2);
        Due.due("nothing is done", x.count(10), 1);
        seatsAre("he stays", x, 2, -1);
        x.undo();
        Due.due("he sits there no more", x.sit(0, 2), -1);
    }

    /** "-2: others": no RIDER, no SEAT. */
    private static void sitOfOthers() {
        for (int seats = 2; seats <= 4; seats++) {
            MiddleSeat x = Due.on("seats " + seats + ";" + riders(1, "plain"));
            for (int none : NO_INDEX) {
                Due.due("rider " + none, x.sit(none, 0), -2);
                Due.due("seat " + none, x.sit(0, none), -2);
            }
            Due.due("rider 1 of 1", x.sit(1, 0), -2);
            Due.due("seat behind the last", x.sit(0, seats), -2);
            Due.due("both", x.sit(-1, -1), -2);
            Due.due("nothing is done", x.count(10) + x.count(5), 0);
            Due.due("the last seat", x.sit(0, seats - 1), -1);
        }
    }

    /** "HOME: none is to come": one may sit there, too. */
    private static void sitAtHome() {
        MiddleSeat x = sitting("seats 3;" + STRETCH + riders(2, "plain"), 0, 1);
        Due.due("home", x.drive(), 1);
        Due.due("at home", x.sit(0, 1), 1);
        seatsAre("at home", x, 1, 0);
        Due.due("no further", x.drive(), -1);
        totalsAre("totals stay", x, 10, 20);
        Due.due("undone", x.undo(), true);
        seatsAre("as they came", x, 0, 1);
    }

    /** "if all RIDERS sit by a LAWFUL PLAN": where SIT led is free, DRIVE isn't. */
    private static void allRidersSitByALawfulPlan() {
        MiddleSeat x = Due.on(LONG + "never a 1;apart a b;");
        Due.due("nobody sits", x.drive(), -1);
        x.sit(0, 0);
        Due.due("one doesn't", x.drive(), -1);
        x.sit(1, 1);
        Due.due("beside one another", x.drive(), -1);
        x.sit(0, 1);
        x.sit(1, 2);
        Due.due("where he never does", x.drive(), -1);
        Due.due("only sitting was done", x.count(10) * 10 + x.count(4), 40);
        x.sit(0, 0);
        Due.due("lawful", x.drive(), 1);
        x.sit(1, 0);
        Due.due("lawful the other way", x.drive(), 2);
        MiddleSeat sick = sitting("seats 3;" + STRETCH + riders(1, "sick"), 1);
        Due.due("the sick in the middle", sick.drive(), -1);
        sick.sit(0, 2);
        Due.due("at an end", sick.drive(), 1);
    }

    /** "and a stretch is to come"; "which stretch is to come then; NONE: it can't be". */
    private static void aStretchIsToCome() {
        for (int many = 0; many <= 4; many++) {
            MiddleSeat x = sitting("seats 3;" + STRETCH.repeat(many) + riders(1, "plain"), 0);
            for (int stretch = 0; stretch < many; stretch++) {
                Due.due("to come", x.count(4), stretch);
                Due.due("drive " + stretch + " of " + many, x.drive(), stretch + 1);
            }
            Due.due("home", x.drive(), -1);
            Due.due("behind the last", x.count(4), many);
            Due.due("a refused drive can't be undone", x.count(10), 1 + many);
        }
    }

    /** "each has its WORTH more". */
    private static void eachHasHisWorthMore() {
        MiddleSeat x = sitting("seats 3;stretch 99 has 0 9 1;" + "rider a plain dash 1 past 9999;rider b plain dash 1 past 0;rider c plain dash 1 past 1;", 0, 1, 2);
        x.drive();
        totalsAre("nothing, much, some", x, 9999, 891, 100);
        MiddleSeat tip = sitting("seats 2;stretch 1 has 0 0;rider a sleeper dash 1 past 0;rider b plain dash 1 past 0;worth 5-3*tip;", 0, 1);
        tip.drive();
        totalsAre("beside the sleeper", tip, 5, 2);
    }

    /** "less fight if he sits elsewhere than on the stretch ahead (but at first)". */
    private static void fightButAtFirst() {
        MiddleSeat x = sitting(LONG, 2, 1);
        x.sit(0, 0);
        x.drive();
        totalsAre("not at first", x, 110, 220);
        x.drive();
        totalsAre("who stays doesn't fight", x, 120, 240);
        x.sit(0, 2);
        x.drive();
        totalsAre("who changes does", x, 120 + 30 - 7, 260);
        x.sit(0, 1);
        x.sit(0, 2);
        x.sit(1, 0);
        x.sit(1, 1);
        x.drive();
        totalsAre("who comes back doesn't", x, 143 + 30, 280);
        MiddleSeat poor = sitting("seats 2;" + "stretch 1 has 0 0;".repeat(4) + riders(2, "plain") + "fight 99;", 0, 1);
        for (int stretch = 0; stretch < 4; stretch++) {
            poor.drive();
            totalsAre("below 0", poor, -99 * stretch, -99 * stretch);
            poor.sit(0, 1 - stretch % 2);
        }
    }

    /** Where nobody rides, all of them sit. */
    private static void nobodyDrives() {
        MiddleSeat x = Due.on("seats 2;stretch 1 has 0 0;stretch 1 has 0 0;");
        Due.due("first", x.drive(), 1);
        Due.due("home", x.drive(), 2);
        Due.due("no further", x.drive(), -1);
        Due.due("back", x.undo() && x.undo(), true);
        Due.due("no further back", x.undo(), false);
    }

    /** "UNDO: these, the last 16": after 15, 16, 17 and many more. */
    private static void theLastSixteen() {
        for (int many : new int[] {0, 1, 15, 16, 17, 31, 32, 33, 100}) {
            MiddleSeat x = Due.on("seats 3;" + riders(1, "plain"));
            for (int i = 0; i < many; i++) {
                x.sit(0, i % 3);
            }
            int can = Math.min(16, many);
            Due.due("can be undone of " + many, x.count(10), can);
            for (int i = 1; i <= can; i++) {
                Due.due("undo", x.undo(), true);
                seatsAre("one back", x, many - i == 0 ? -1 : (many - i - 1) % 3);
                Due.due("left", x.count(10), can - i);
            }
            Due.due("no more of " + many, x.undo(), false);
            seatsAre("it stays", x, many <= 16 ? -1 : (many - 17) % 3);
        }
    }

    /** "one by one": SIT and DRIVE with all that they changed. */
    private static void undoOneByOne() {
        MiddleSeat x = sitting(LONG, 0, 1);
        x.drive();
        x.sit(0, 1);
        x.drive();
        totalsAre("before", x, 110 + 20 - 7, 220 + 10 - 7);
        x.undo();
        Due.due("the drive", x.count(4), 1);
        totalsAre("the drive", x, 110, 220);
        seatsAre("not the sit", x, 1, 0);
        x.undo();
        seatsAre("both change back", x, 0, 1);
        Due.due("drive again", x.drive(), 2);
        totalsAre("who stays doesn't fight", x, 120, 240);
        for (int i = 0; i < 4; i++) {
            Due.due("undo", x.undo(), true);
        }
        Due.due("all undone", x.undo(), false);
        seatsAre("nobody sits", x, -1, -1);
        totalsAre("past", x, 100, 200);
        Due.due("the begin", x.count(4), 0);
        x.sit(1, 1);
        Due.due("one again", x.count(10), 1);
    }

    /** "these": nothing else can be undone, nothing that was refused. */
    private static void onlySitAndDriveCanBeUndone() {
        MiddleSeat x = Due.on(LONG);
        x.sit(0, 9);
        x.drive();
        x.see(0, 0, 0, true);
        x.mark(0, false);
        Due.journey(x, "drive;");
        Due.shares(x, "row 1 1 1;row 1 1 1;");
        Due.due("nothing", x.undo(), false);
        x.sit(0, 0);
        x.see(0, 1, 0, true);
        Due.due("the sit", x.undo(), true);
        Due.due("what was seen, told stays", x.count(8) * 100 + x.count(6) * 10 + x.count(7), 211);
        Due.due("the mark stays", x.mark(0, true), true);
    }

    /** "the first line (from 0) that can't be"; "(NONE: all can)". */
    private static void theFirstLineThatCantBe() {
        String[] texts = {"", "sit a 0;", "drive;", "sit a 0;drive;", "sit a 0;sit b 1;drive;", "sit a 0;sit b 1;drive;drive;drive;drive;",
            "sit a 0;sit b 1;drive;drive;drive;drive;drive;", "sit a 0;sit b 1;drive;sit b 0;drive;sit b 0;sit a 0;drive;", "sit a 0;sit a 1;sit b 1;drive;sit a 2;drive;"};
        int[] due = {-1, -1, 0, 1, -1, -1, 6, -1, 3};
        MiddleSeat x = Due.on(LONG);
        for (int i = 0; i < texts.length; i++) {
            Due.due("journey", Due.journey(x, texts[i]), 0);
            Due.due("judged " + texts[i], x.judged(-1), due[i]);
        }
        Due.journey(x, "sit a 0;".repeat(19) + "drive;");
        Due.due("the last of 20", x.judged(-1), 19);
        Due.journey(x, "drive;".repeat(20));
        Due.due("the first of 20", x.judged(-1), 0);
        MiddleSeat nobody = Due.on("seats 2;stretch 1 has 0 0;");
        Due.journey(nobody, "drive;drive;");
        Due.due("of nobody", nobody.judged(-1), 1);
        Due.due("nobody has a total", nobody.judged(0), -99999);
    }

    /** "sit can always": where he sits, where he never does, at home. */
    private static void sitCanAlways() {
        MiddleSeat x = Due.on("seats 2;stretch 10 has 1 2;" + riders(1, "plain") + "never a 0;");
        Due.journey(x, "sit a 1;sit a 1;sit a 0;sit a 1;drive;sit a 0;sit a 0;");
        Due.due("all can", x.judged(-1), -1);
        Due.due("total", x.judged(0), 20);
    }

    /** "lines that can't be are left out: RIDERS' totals at last". */
    private static void linesThatCantBeAreLeftOut() {
        MiddleSeat x = Due.on(LONG);
        Due.journey(x, "drive;sit a 0;drive;sit b 0;drive;sit a 1;drive;drive;drive;drive;drive;drive;");
        Due.due("the first", x.judged(-1), 0);
        Due.due("a has all four", x.judged(0), 100 + 4 * 20);
        Due.due("b, too", x.judged(1), 200 + 4 * 10);
        Due.journey(x, "sit a 0;sit b 1;drive;sit a 1;drive;sit a 2;");
        Due.due("a with a fight", x.judged(0), 100 + 10 + 20 - 7);
        Due.due("b with his", x.judged(1), 200 + 20 + 10 - 7);
        Due.journey(x, "sit a 0;");
        Due.due("past where nobody drives", x.judged(0) * 1000 + x.judged(1), 100200);
    }

    /** "the JOURNEY from the begin, nobody sitting", whatever is done by hand. */
    private static void judgedFromTheBegin() {
        MiddleSeat x = sitting(LONG, 2, 1);
        x.drive();
        Due.journey(x, "drive;sit a 0;drive;");
        Due.due("nobody sits", x.judged(-1), 0);
        Due.due("total", x.judged(0), 100);
        Due.journey(x, "sit a 0;sit b 1;drive;drive;drive;drive;");
        Due.due("all stretches", x.judged(-1), -1);
        Due.due("from past", x.judged(1), 200 + 80);
        Due.due("judged twice", x.judged(1), 200 + 80);
        seatsAre("by hand they sit", x, 2, 1);
        totalsAre("by hand they have", x, 130, 220);
        Due.due("by hand it is", x.count(4) * 10 + x.count(10), 13);
    }

    /** "-99999: others". */
    private static void judgedOthers() {
        MiddleSeat x = Due.on(LONG);
        for (int rider : new int[] {2, 3, 4, -2, -3, Integer.MIN_VALUE, Integer.MAX_VALUE}) {
            Due.due("no journey: rider " + rider, x.judged(rider), -99999);
        }
        Due.journey(x, "drive;");
        for (int rider : new int[] {2, 3, 4, -2, -3, Integer.MIN_VALUE, Integer.MAX_VALUE}) {
            Due.due("rider " + rider, x.judged(rider), -99999);
        }
        Due.due("the last", x.judged(1), 200);
    }

    // ---- promise 24

    /** "(10 at most)": "false: [...] 10 are SEEN". */
    private static void tenAreSeen() {
        MiddleSeat x = Due.on(LONG);
        for (int i = 0; i < 10; i++) {
            Due.due("seen before", x.count(8), i);
            Due.due("see " + i, x.see(i % 2, i % 3, i % 4, i == 0), true);
        }
        Due.due("an eleventh", x.see(0, 0, 0, true), false);
        Due.due("still ten", x.count(8), 10);
        Due.due("the eleventh is not counted", x.see(1, 2, 3, false), false);
        int fits = x.fits(0);
        x.see(0, 1, 3, true);
        Due.due("nor taken down", x.fits(0), fits);
    }

    /** "false: others": no RIDER, no SEAT, no stretch. */
    private static void seeOthers() {
        MiddleSeat x = Due.on(LONG);
        for (int none : NO_INDEX) {
            Due.due("rider " + none, x.see(none, 0, 0, true), false);
            Due.due("seat " + none, x.see(0, none, 0, false), false);
            Due.due("stretch " + none, x.see(0, 0, none, true), false);
        }
        Due.due("rider 2 of 2", x.see(2, 0, 0, true), false);
        Due.due("seat 3 of 3", x.see(0, 3, 0, true), false);
        Due.due("stretch 4 of 4", x.see(0, 0, 4, true), false);
        Due.due("nothing is seen", x.count(8), 0);
        Due.due("the last of all", x.see(1, 2, 3, false), true);
        Due.due("no stretch, nothing to see", Due.on("seats 2;" + riders(1, "plain")).see(0, 0, 0, true), false);
        Due.due("no rider, nothing to see", Due.on("seats 2;stretch 1 has 0 0;").see(0, 0, 0, true), false);
    }

    // ---- promise 27

    /** "MARKS 0 to 3": each by itself; "false: none such". */
    private static void marks0To3() {
        MiddleSeat x = Due.on("seats 4;" + riders(1, "plain"));
        for (int mark = 0; mark < 4; mark++) {
            x.sit(0, mark);
            Due.due("laid " + mark, x.mark(mark, false), true);
        }
        for (int mark : new int[] {2, 0, 3, 1, 1, 2}) {
            Due.due("back to " + mark, x.mark(mark, true), true);
            seatsAre("mark " + mark, x, mark);
        }
        for (int mark : NO_INDEX) {
            Due.due("no mark " + mark, x.mark(mark, false), false);
            Due.due("no mark " + mark + " back", x.mark(mark, true), false);
        }
        seatsAre("it stays", x, 2);
    }

    /** "nothing is on it (back)". */
    private static void nothingIsOnIt() {
        MiddleSeat x = sitting(LONG, 0);
        for (int mark = 0; mark < 4; mark++) {
            Due.due("nothing on " + mark, x.mark(mark, true), false);
        }
        Due.due("what can be undone stays", x.count(10), 1);
        x.mark(1, false);
        for (int mark = 0; mark < 4; mark++) {
            Due.due("something on 1 alone", x.mark(mark, true), mark == 1);
        }
        Due.road(x, LONG);
        Due.due("nothing behind a new road", x.mark(1, true), false);
        Due.due("nor refused on it", x.mark(1, false), true);
    }

    /** "hold who sits where, which stretch is to come, totals, the SHARES, what is SEEN". */
    private static void whatAMarkHolds() {
        MiddleSeat x = sitting("seats 2;stretch 10 has 1 2;stretch 10 has 1 2;" + riders(2, "plain") + "fight 5;", 0, 1);
        x.mark(0, false);
        x.drive();
        Due.shares(x, "row 4 6;row 6 4;");
        x.see(0, 1, 1, true);
        x.mark(1, false);
        x.sit(0, 1);
        x.drive();
        Due.shares(x, "row 10 0;row 0 10;");
        x.see(1, 1, 0, true);
        x.mark(3, false);
        Due.due("back to 1", x.mark(1, true), true);
        seatsAre("1", x, 0, 1);
        totalsAre("1", x, 10, 20);
        Due.due("1: to come, shares, seen", x.count(4) * 100 + x.count(7) * 10 + x.count(8), 111);
        Due.due("1: its shares", x.pieces(0, -1) * 100 + x.pieces(0, 1), 204);
        Due.due("1: what it has seen", x.fits(0), 2);
        Due.due("1: nobody fights who stays", x.drive(), 2);
        totalsAre("1", x, 20, 40);
        Due.due("back to 0", x.mark(0, true), true);
        Due.due("0: to come, shares, seen", x.count(4) * 100 + x.count(7) * 10 + x.count(8), 0);
        Due.due("0: no shares", x.pieces(0, -1), -2);
        Due.due("0: all journeys", x.fits(0), 4);
        totalsAre("0", x, 0, 0);
        Due.due("back to 3", x.mark(3, true), true);
        seatsAre("3", x, 1, 0);
        totalsAre("3", x, 10 + 20 - 5, 20 + 10 - 5);
        Due.due("3: to come, shares, seen", x.count(4) * 100 + x.count(7) * 10 + x.count(8), 212);
        Due.due("3: its shares", x.pieces(0, -1), 1);
        Due.due("3: what it has seen", x.fits(0), 1);
    }

    /** What is SEEN on a MARK is what was seen then, whatever was seen since, on other MARKS, too. */
    private static void whatIsSeenOnAMark() {
        MiddleSeat x = Due.on("seats 2;stretch 1 has 0 0;" + riders(1, "plain"));
        x.mark(0, false);
        x.see(0, 0, 0, true);
        x.mark(1, false);
        x.mark(0, true);
        x.see(0, 1, 0, true);
        x.mark(2, false);
        Due.due("on 2", x.fits(0) * 100 + x.fits(3), 101);
        x.mark(1, true);
        Due.due("on 1", x.fits(0) * 100 + x.fits(3), 100);
        x.see(0, 1, 0, true);
        Due.due("and more", x.fits(0), 0);
        x.mark(2, true);
        Due.due("on 2 again", x.fits(0) * 100 + x.fits(3), 101);
        for (int i = 1; i < 10; i++) {
            Due.due("up to ten", x.see(0, 1, 0, true), true);
        }
        x.mark(3, false);
        x.mark(1, true);
        Due.due("room again", x.see(0, 0, 0, true), true);
        x.mark(3, true);
        Due.due("ten on 3", x.see(0, 1, 0, true), false);
        Due.due("all as on 3", x.fits(3), 1);
    }

    /** Nothing else: the JOURNEY and the TAPE stay. */
    private static void whatAMarkDoesNotHold() {
        MiddleSeat x = Due.on(LONG);
        Due.journey(x, "drive;");
        x.mark(0, false);
        Due.journey(x, "drive;drive;drive;");
        Due.feed(x, "abcde");
        Due.due("back", x.mark(0, true), true);
        Due.due("lines", x.count(6), 3);
        Due.due("signs", x.count(11), 5);
        Due.due("the road", x.count(1), 4);
    }

    /** "(nothing can be undone when one is gone back to)". */
    private static void nothingCanBeUndoneThen() {
        MiddleSeat x = sitting(LONG, 0, 1);
        x.mark(0, false);
        Due.due("laying leaves it", x.count(10), 2);
        Due.due("refused leaves it", x.mark(1, true) || x.mark(4, true) || x.mark(-1, false), false);
        Due.due("as it was", x.count(10), 2);
        x.mark(0, true);
        Due.due("none", x.count(10), 0);
        Due.due("nothing", x.undo(), false);
        seatsAre("it stays", x, 0, 1);
        x.sit(0, 2);
        Due.due("what comes then can be", x.undo(), true);
        seatsAre("as on the mark", x, 0, 1);
        Due.due("no further", x.undo(), false);
    }

    // ---- promise 28

    /** "What 0: SEATS, 1: stretches, 2: RIDERS, [...] 11: signs on the TAPE": the greatest of each. */
    private static void countWhat() {
        MiddleSeat x = sitting("seats 4;" + "stretch 1 has 0 0 0 0;".repeat(4) + riders(4, "plain") + "fight 99;"
            + "rule ra 1;rule rb 1;rule rc 1;rule rd 1;", 0, 1, 2, 3);
        for (int i = 0; i < 16; i++) {
            x.sit(0, 1 - i % 2);
        }
        for (int i = 0; i < 4; i++) {
            x.drive();
        }
        Due.journey(x, "drive;".repeat(20));
        Due.shares(x, "row 0 0 0 0;".repeat(4));
        for (int i = 0; i < 10; i++) {
            x.see(0, 0, 0, true);
        }
        Due.feed(x, " ".repeat(1000));
        int[] due = {4, 4, 4, 4, 4, 4, 20, 1, 10, 99, 16, 1000};
        for (int what = 0; what < due.length; what++) {
            Due.due("count(" + what + ")", x.count(what), due[what]);
        }
    }

    /** "NONE for another what". */
    private static void countOthers() {
        for (MiddleSeat x : new MiddleSeat[] {new MiddleSeat(), Snapshot.busy()}) {
            for (int what : new int[] {-1, -2, 12, 13, Integer.MIN_VALUE, Integer.MAX_VALUE}) {
                Due.due("count(" + what + ")", x.count(what), -1);
            }
        }
    }

    // ---- all promises

    /** What only asks changes nothing, and answers the same again. */
    private static void whatOnlyAsksChangesNothing() {
        MiddleSeat x = Snapshot.busy();
        String before = Snapshot.of(x);
        Due.due("again", Snapshot.of(x).equals(before), true);
        Due.due("undone and done again", x.undo() && x.sit(0, 1) == 2 && Snapshot.of(x).equals(before), true);
    }

    /** "An object is used for at most 512 calls": the last one answers as the first. */
    private static void fiveHundredAndTwelveCalls() {
        MiddleSeat x = new MiddleSeat();
        String text = "seats 3;stretch 1 has 1 2 3;rider a plain dash 1 past 0;";
        int calls = (text.length() + 23) / 24;
        for (int from = 0; from < text.length(); from += 24) {
            Due.feedAt(x, text, from);
        }
        Due.due("road", x.road(), 0);
        calls++;
        for (; calls < 510; calls++) {
            x.sit(0, calls % 3);
        }
        Due.due("call 511", x.drive(), 1);
        Due.due("call 512", Due.rider(x, 0, 4), 1 + 509 % 3);
        MiddleSeat y = new MiddleSeat();
        for (int i = 0; i < 511; i++) {
            y.feed(' ', ' ', ' ');
        }
        Due.due("512 calls that feed", y.feed(0, 0, 0), 1000);
    }
}
