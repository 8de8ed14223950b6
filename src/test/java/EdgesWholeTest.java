/**
 * Promises 15 to 23, 25 and 26: a method for each sentence of the document about JOURNEYS as a whole, PIECES,
 * TOFFEES, the DOOR, rules, what FITS and YEARS that names an edge.
 */
public final class EdgesWholeTest {
    private static final int[] NO_INDEX = {-2, 4, 5, 99, Integer.MIN_VALUE, Integer.MAX_VALUE, 1 << 16, 1 << 29};
    private static final String TWO = "rider a plain dash 1 past 0;rider b plain dash 1 past 0;";
    private static final String FOUR = "rider a plain dash 1 past 0;rider b sick dash 2 past 0;"
        + "rider c sleeper dash 3 past 0;rider d small dash 4 past 0;";
    private static final String NO_PLAN = "seats 2;stretch 5 has 1 2;rider a plain dash 1 past 3;rule r who;never a 0;never a 1;";
    private static final String NO_RIDER = "seats 2;stretch 5 has 1 2;rule r 1;";
    private static final String NO_STRETCH = "seats 2;rider a plain dash 1 past 9;rider b plain dash 1 past 4;apart a b;rule r 1;";

    private EdgesWholeTest() {
    }

    public static void main(String[] args) {
        movesZeroTo12();
        theLeastSpread();
        ofEqualOnesTheFewestMoves();
        ofEqualOnesTheFirstPlans();
        evenestOfOthers();
        evenestNoneOrNoRider();
        aFightForEachChange();
        totalsWithPast();
        theGreatestSum();
        ofEqualSumsTheFirst();
        mostOfOthers();
        oneLawfulPlan();
        theGreatestLeastTotal();
        worstOfNone();
        afterOneTo20();
        eachOnesTotalsAreTheNextOnesPast();
        afterNone();
        withoutStretches();
        asManyRidersAsSeatsForPieces();
        minutesThatComeToTheStretch();
        theFirstPlanForTheLeastOfThese();
        tillNoneAreLeft();
        piecesOfOthers();
        lawfulOrNot();
        asManyRidersAsSeatsForToffees();
        toffeesOfTheGreatestSum();
        theLeastPrices();
        pricesAlongAllSeats();
        tipAndLawsAside();
        toffeesOfOthers();
        asLikelyAsHisDash();
        theSeatThatHasMost();
        whereHeMaySitOrNone();
        inLowestTerms();
        doorOfOthers();
        moduloTheSeatsNotBelowZero();
        seatAtTheBeginHisNumber();
        stopZeroIsTheBegin();
        onlyOneIfNoTwoComeToOneSeat();
        onlyOneIfEachPlanIsLawful();
        calledOfOthers();
        fairestOfEqualOnesTheFirst();
        fairestNone();
        howManyFit();
        inAllInNone();
        fitsOfOthers();
        aDraw();
        seedsAndJourneys();
        whoHasOneGetsItsWorth();
        howOftenSomebodyHadNone();
        yearsOfOthers();
        Due.end();
    }

    private static void evenestIs(MiddleSeat x, int moves, int... due) {
        for (int what = 0; what < due.length; what++) {
            Due.due("evenest(" + moves + ", " + what + ")", x.evenest(moves, what), due[what]);
        }
    }

    private static void mostIs(MiddleSeat x, int... due) {
        for (int what = -1; what + 1 < due.length; what++) {
            Due.due("most(" + what + ")", Due.most(x, what), due[what + 1]);
        }
    }

    private static void chanceIs(MiddleSeat x, int rider, int seat, long above, long below) {
        Due.due("chance of " + rider + " on " + seat + ": above", x.door(0, rider, seat, 0), above);
        Due.due("chance of " + rider + " on " + seat + ": below", x.door(0, rider, seat, 1), below);
    }

    // ---- promise 15

    /** "MOVES (0 to 12) at most": four seats of which each one has each once, so that all change at each stop. */
    private static void movesZeroTo12() {
        MiddleSeat x = Due.on("seats 4;" + "stretch 1 has 0 1 3 9;".repeat(4) + FOUR.replace("sick", "plain"));
        evenestIs(x, 12, 0, 12, 27, 78, 177, 228, -1);
        evenestIs(x, 0, 36, 0, 27, 27, 27, 27, -1);
        int last = 36;
        for (int moves = 0; moves <= 12; moves++) {
            int spread = x.evenest(moves, 0);
            Due.due("no more moves than may be", x.evenest(moves, 1) <= moves, true);
            Due.due("no worse with more moves", spread <= last, true);
            Due.due("even with all alone", spread == 0, moves == 12);
            last = spread;
        }
        Due.due("moves -1", x.evenest(-1, 0), -1);
        Due.due("moves 13", x.evenest(13, 0), -1);
        Due.due("moves least", x.evenest(Integer.MIN_VALUE, 0), -1);
        Due.due("moves greatest", x.evenest(Integer.MAX_VALUE, 0), -1);
        Due.due("one move is none", x.evenest(1, 1), 0);
    }

    /** "the least SPREAD", by a walk through all journeys of a full car. */
    private static void theLeastSpread() {
        int[][] has = {{9, 1, 0, 4}, {2, 8, 3, 0}, {7, 0, 5, 6}};
        MiddleSeat x = Due.on("seats 4;stretch 9 has 9 1 0 4;stretch 8 has 2 8 3 0;stretch 7 has 7 0 5 6;" + FOUR.replace("sick", "plain") + "fight 11;");
        int[] minutes = {9, 8, 7};
        int[][] best = new int[13][];
        int[] plans = allPlans();
        for (int i = 0; i < plans.length * plans.length * plans.length; i++) {
            int[] journey = {plans[i / 576], plans[i / 24 % 24], plans[i % 24]};
            int[] found = spreadAndMoves(journey, has, minutes, 11);
            for (int moves = found[1]; moves <= 12; moves++) {
                int[] old = best[moves];
                if (old == null || found[0] < old[0] || found[0] == old[0] && found[1] < old[1]) {
                    best[moves] = new int[] {found[0], found[1], journey[0], journey[1], journey[2], -1};
                }
            }
        }
        for (int moves = 0; moves <= 12; moves++) {
            evenestIs(x, moves, best[moves]);
        }
    }

    private static int[] allPlans() {
        int[] plans = new int[24];
        int many = 0;
        for (int number = 0; number < 256; number++) {
            int set = 1 << (number >> 6) | 1 << (number >> 4 & 3) | 1 << (number >> 2 & 3) | 1 << (number & 3);
            if (set == 15) {
                plans[many] = number;
                many++;
            }
        }
        return plans;
    }

    private static int[] spreadAndMoves(int[] journey, int[][] has, int[] minutes, int fight) {
        int least = Integer.MAX_VALUE;
        int greatest = Integer.MIN_VALUE;
        int moves = 0;
        for (int shift = 6; shift >= 0; shift -= 2) {
            int total = 0;
            for (int s = 0; s < journey.length; s++) {
                int seat = journey[s] >> shift & 3;
                total += has[s][seat] * minutes[s];
                if (s > 0 && seat != (journey[s - 1] >> shift & 3)) {
                    total -= fight;
                    moves++;
                }
            }
            least = Math.min(least, total);
            greatest = Math.max(greatest, total);
        }
        return new int[] {greatest - least, moves};
    }

    /** "of equal ones the fewest MOVES", though another one is the first. */
    private static void ofEqualOnesTheFewestMoves() {
        // Alone all are even, so he stays.
        evenestIs(Due.on("seats 2;" + "stretch 1 has 1 9;".repeat(4) + "rider a plain dash 1 past 0;"), 12, 0, 0, 0, 0, 0, 0);
        // Two are even if they change twice or four times; the first journey of all is not the one.
        MiddleSeat x = Due.on("seats 2;" + "stretch 1 has 0 1;".repeat(4) + TWO);
        evenestIs(x, 12, 0, 2, 1, 1, 4, 4);
        evenestIs(x, 2, 0, 2, 1, 1, 4, 4);
        evenestIs(x, 1, 4, 0, 1, 1, 1, 1);
    }

    /** "of equal ones the first (PLANS as numbers, in order)". */
    private static void ofEqualOnesTheFirstPlans() {
        evenestIs(Due.on("seats 4;stretch 1 has 0 0 0 0;" + FOUR), 12, 0, 0, 0 * 64 + 3 * 16 + 1 * 4 + 2);
        evenestIs(Due.on("seats 2;stretch 1 has 5 5;stretch 1 has 5 5;" + TWO), 12, 0, 0, 1, 1);
        evenestIs(Due.on("seats 3;stretch 1 has 1 1 1;rider a plain dash 1 past 0;never a 0;"), 0, 0, 0, 1);
        evenestIs(Due.on("seats 2;stretch 1 has 0 1;stretch 1 has 0 1;" + TWO), 2, 0, 2, 1, 4);
    }

    /** "NONE: others". */
    private static void evenestOfOthers() {
        for (int many = 0; many <= 4; many++) {
            MiddleSeat x = Due.on("seats 2;" + "stretch 1 has 0 1;".repeat(many) + TWO);
            for (int what = -3; what <= 8; what++) {
                boolean there = what >= 0 && what < 2 + many;
                Due.due("evenest(12, " + what + ") of " + many, x.evenest(12, what) != -1, there);
            }
            for (int what : new int[] {Integer.MIN_VALUE, Integer.MAX_VALUE, Integer.MAX_VALUE - 1}) {
                Due.due("evenest(12, " + what + ")", x.evenest(12, what), -1);
            }
        }
    }

    /** "NONE: [...] none, no RIDER". */
    private static void evenestNoneOrNoRider() {
        for (String road : new String[] {NO_PLAN, NO_RIDER}) {
            for (int what = 0; what < 3; what++) {
                Due.due("evenest of " + road, Due.on(road).evenest(12, what), -1);
                Due.due("evenest of " + road, Due.on(road).evenest(0, what), -1);
            }
        }
    }

    /** "less fights (for each change of SEAT from one stretch to the next)", none at the begin. */
    private static void aFightForEachChange() {
        String swap = "seats 3;stretch 10 has 0 5 1;stretch 10 has 5 0 1;rider a plain dash 1 past 0;rider b plain dash 1 past 0;";
        // Both are even with 50 each if they stay; with a fight of 99 who has the third seat is no worse off than before.
        evenestIs(Due.on(swap + "fight 99;"), 12, 0, 0, 1, 1);
        // a goes from 1 to 0 for 100 less 30, b stays on 2 for 20.
        Due.due("one fights", Due.most(Due.on(swap + "never b 0;never b 1;fight 30;"), -1), 100 - 30 + 20);
        Due.due("one fights no more", Due.most(Due.on(swap + "never b 0;never b 1;fight 51;"), -1), 50 + 20);
        Due.due("two fight", Due.most(Due.on("seats 2;stretch 9 has 0 9;stretch 9 has 0 9;rider a plain dash 1 past 0;"
            + "rider b small dash 1 past 0;worth (kind=0)*base+(kind=3)*(9-base);fight 4;"), -1), 36);
    }

    /** "TOTALS: past and all WORTHS". */
    private static void totalsWithPast() {
        String road = "seats 2;stretch 10 has 0 9;rider a plain dash 1 past 9999;rider b plain dash 1 past ";
        evenestIs(Due.on(road + "9909;"), 12, 0, 0, 1);
        evenestIs(Due.on(road + "0;"), 12, 9999 - 90, 0, 1);
        mostIs(Due.on(road + "9999;"), 9999 + 9999 + 90, 1);
        Due.due("the least of them", Due.worst(Due.on(road + "9999;")), 9999);
        Due.due("by a rule", Due.on(road + "9999;rule r 1-seat;").called(0, 0), 90);
        Due.due("in years", Due.on(road + "0;never a 0;never a 1;").years(0, 1, 0), 9999 - 90);
    }

    // ---- promises 16 to 18

    /** "the greatest sum of all TOTALS whatever the MOVES": more than 12 can't be, all are good. */
    private static void theGreatestSum() {
        MiddleSeat x = Due.on("seats 4;stretch 9 has 0 0 0 9;stretch 9 has 9 0 0 0;stretch 9 has 0 0 0 9;stretch 9 has 9 0 0 0;rider a plain dash 1 past 1;");
        mostIs(x, 1 + 4 * 81, 3, 0, 3, 0);
        // Each rider likes another seat on each stretch, so all move three times.
        MiddleSeat all = Due.on("seats 2;stretch 1 has 0 9;stretch 2 has 0 9;stretch 3 has 0 9;rider a plain dash 1 past 0;rider b small dash 1 past 0;"
            + "worth (kind=0)*base*(not(time=2))*20+(kind=3)*base*(time=2)*20;");
        mostIs(all, 540, 4, 1, 4);
        mostIs(Due.on("seats 2;stretch 1 has 0 0;stretch 1 has 0 0;" + TWO + "fight 99;"), 0, 1, 1);
    }

    /** "(of equal ones the first)". */
    private static void ofEqualSumsTheFirst() {
        mostIs(Due.on("seats 4;stretch 1 has 2 2 2 2;stretch 1 has 2 2 2 2;rider a plain dash 1 past 0;"), 4, 0, 0);
        mostIs(Due.on("seats 2;stretch 1 has 1 5;stretch 1 has 5 1;rider a plain dash 1 past 0;fight 4;"), 6, 0, 0);
        mostIs(Due.on("seats 2;stretch 1 has 1 5;stretch 1 has 5 1;rider a plain dash 1 past 0;fight 3;"), 7, 1, 0);
        mostIs(Due.on("seats 2;stretch 1 has 1 5;stretch 1 has 5 1;rider a plain dash 1 past 0;fight 5;"), 6, 0, 0);
        mostIs(Due.on("seats 3;stretch 1 has 0 4 4;stretch 1 has 4 0 4;rider a plain dash 1 past 0;"), 8, 1, 0);
        mostIs(Due.on("seats 3;stretch 1 has 0 4 4;stretch 1 has 4 0 4;rider a plain dash 1 past 0;fight 1;"), 8, 2, 2);
    }

    /** "NoSuchElementException: others, none, no RIDER". */
    private static void mostOfOthers() {
        for (int many = 0; many <= 4; many++) {
            MiddleSeat x = Due.on("seats 2;" + "stretch 1 has 0 1;".repeat(many) + TWO);
            for (int what = -1; what <= 5; what++) {
                Due.due("most(" + what + ") of " + many, Due.most(x, what) == Due.THREW, what >= many);
            }
            for (int what : NO_INDEX) {
                Due.due("most(" + what + ")", Due.most(x, what), Due.THREW);
            }
        }
        for (String road : new String[] {NO_PLAN, NO_RIDER}) {
            Due.due("most(-1) of " + road, Due.most(Due.on(road), -1), Due.THREW);
            Due.due("most(0) of " + road, Due.most(Due.on(road), 0), Due.THREW);
        }
    }

    /** One LAWFUL PLAN is enough for all, and a full car, whose pasts are all told. */
    private static void oneLawfulPlan() {
        MiddleSeat one = Due.on("seats 2;stretch 5 has 1 2;rider a plain dash 1 past 3;never a 0;");
        evenestIs(one, 0, 0, 0, 1);
        mostIs(one, 13, 1);
        Due.due("worst", Due.worst(one), 13);
        Due.due("after", one.after(), 1);
        Due.due("fits", one.fits(0), 1);
        MiddleSeat full = Due.on("seats 4;stretch 1 has 1 2 3 4;rider a plain dash 1 past 9999;rider b plain dash 1 past 9999;rider c plain dash 1 past 9999;"
            + "rider d plain dash 1 past 9999;");
        mostIs(full, 4 * 9999 + 10, 27);
        Due.due("full: worst", Due.worst(full), 10000);
        evenestIs(full, 12, 3, 0, 27);
    }

    /** "WORST: the greatest that the least TOTAL can be". */
    private static void theGreatestLeastTotal() {
        String two = "seats 2;stretch 9 has 0 9;stretch 9 has 0 9;rider a plain dash 1 past 0;rider b plain dash 1 past 0;";
        Due.due("in turn", Due.worst(Due.on(two)), 81);
        Due.due("a fight each", Due.worst(Due.on(two + "fight 80;")), 1);
        Due.due("a fight as dear as the seat", Due.worst(Due.on(two + "fight 81;")), 0);
        Due.due("a dearer one", Due.worst(Due.on(two + "fight 99;")), 0);
        Due.due("the poorest has the best", Due.worst(Due.on("seats 2;stretch 10 has 1 9;rider a plain dash 1 past 90;rider b plain dash 1 past 5;")), 95);
        Due.due("alone", Due.worst(Due.on("seats 2;stretch 10 has 1 9;rider a plain dash 1 past 9999;")), 10089);
        Due.due("not so rich that others count", Due.worst(Due.on("seats 2;stretch 1 has 0 0;rider a plain dash 1 past 9999;rider b plain dash 1 past 0;")), 0);
    }

    /** "NoSuchElementException: none, no RIDER". */
    private static void worstOfNone() {
        Due.due("no plan", Due.worst(Due.on(NO_PLAN)), Due.THREW);
        Due.due("no rider", Due.worst(Due.on(NO_RIDER)), Due.THREW);
        Due.due("no rider, no stretch", Due.worst(new MiddleSeat()), Due.THREW);
    }

    /** "the SPREAD is 0 (1 to 20)": "NONE: [...] not within 20". */
    private static void afterOneTo20() {
        String two = "seats 2;stretch 10 has 0 1;rider a plain dash 1 past 0;rider b plain dash 1 past ";
        for (int many = 1; many <= 22; many++) {
            Due.due("10 of " + 10 * many, Due.on(two + 10 * many + ";").after(), many <= 20 ? many : -1);
        }
        Due.due("even before, but not by a journey", Due.on(two + "0;").after(), 2);
        Due.due("never", Due.on(two + "5;").after(), -1);
        Due.due("alone", Due.on("seats 2;stretch 1 has 0 1;rider a plain dash 1 past 7;").after(), 1);
    }

    /** "by the EVENEST of all (whatever the MOVES), each one's TOTALS being the next one's past". */
    private static void eachOnesTotalsAreTheNextOnesPast() {
        MiddleSeat x = Due.on("seats 2;stretch 10 has 0 1;rider a plain dash 1 past 0;rider b plain dash 1 past 0;fight 99;");
        Due.due("no fight from one journey to the next", x.after(), 2);
        MiddleSeat latin = Due.on("seats 4;" + "stretch 1 has 0 1 3 9;".repeat(4) + FOUR.replace("sick", "plain"));
        Due.due("with twelve moves at once", latin.after(), 1);
        MiddleSeat y = Due.on("seats 2;stretch 10 has 0 1;rider a plain dash 1 past 30;rider b plain dash 1 past 0;");
        y.sit(0, 0);
        y.sit(1, 1);
        y.drive();
        Due.due("from past, not from what is now", y.after(), 3);
        Due.due("past is past still", Due.rider(y, 0, 2), 30);
        Due.due("and the evenest as before", y.evenest(12, 0), 20);
    }

    /** "NONE: none, no RIDER". */
    private static void afterNone() {
        Due.due("no plan", Due.on(NO_PLAN).after(), -1);
        Due.due("no rider", Due.on(NO_RIDER).after(), -1);
        Due.due("neither", new MiddleSeat().after(), -1);
    }

    /** "a PLAN for each stretch": where there is none, TOTALS are past, and LAWS bind nobody. */
    private static void withoutStretches() {
        MiddleSeat x = Due.on(NO_STRETCH);
        Due.due("no plan is lawful", x.plans(), 0);
        evenestIs(x, 12, 5, 0, -1);
        evenestIs(x, 0, 5, 0, -1);
        mostIs(x, 13);
        Due.due("worst", Due.worst(x), 4);
        Due.due("after", x.after(), -1);
        Due.due("even", Due.on(NO_STRETCH.replace("past 9", "past 4")).after(), 1);
        Due.due("called", x.called(0, 0), 5);
        Due.due("fairest", x.fairest(), 0);
        Due.due("one fits", x.fits(0) * 100 + x.fits(1) * 10 + x.fits(2), 100);
        Due.due("no first plan", x.fits(3), -1);
        Due.due("years", x.years(0, 60, 0), 5);
        Due.due("nobody had none", x.years(0, 60, 1), 0);
        Due.due("nothing at no stretch", x.toffees(0, -1) + x.pieces(0, -1) + x.door(0, 0, 0, 0), -5);
    }

    // ---- promise 19

    private static MiddleSeat shared(int seats, int minutes, String rows) {
        String riders = "";
        for (int rider = 0; rider < seats; rider++) {
            riders += "rider " + (char) ('a' + rider) + " plain dash 1 past 0;";
        }
        MiddleSeat x = Due.on("seats " + seats + ";stretch " + minutes + " has" + " 0".repeat(seats) + ";" + riders);
        Due.due("shares " + rows, Due.shares(x, rows), 0);
        return x;
    }

    private static void piecesAre(MiddleSeat x, int... due) {
        Due.due("how many", x.pieces(0, -1), due.length / 2);
        for (int what = 0; what < due.length; what++) {
            Due.due("pieces(0, " + what + ")", x.pieces(0, what), due[what]);
        }
        Due.due("no more plans", x.pieces(0, due.length), -2);
        Due.due("no more minutes", x.pieces(0, due.length + 1), -2);
    }

    /** "as many RIDERS as SEATS". */
    private static void asManyRidersAsSeatsForPieces() {
        piecesAre(shared(2, 5, "row 2 3;row 3 2;"), 1, 2, 4, 3);
        for (int seats = 2; seats <= 4; seats++) {
            for (int riders = 0; riders < seats; riders++) {
                StringBuilder text = new StringBuilder("seats " + seats + ";stretch 5 has" + " 0".repeat(seats) + ";");
                for (int rider = 0; rider < riders; rider++) {
                    text.append("rider ").append((char) ('a' + rider)).append(" plain dash 1 past 0;");
                }
                MiddleSeat x = Due.on(text.toString());
                for (int rider = 0; rider < riders; rider++) {
                    Due.feed(x, "row" + " 0".repeat(rider) + " 5" + " 0".repeat(seats - 1 - rider) + ";");
                }
                Due.due("shares", x.shares(), 0);
                Due.due("fewer riders", x.pieces(0, -1), -2);
                Due.due("no plan", x.pieces(0, 0), -2);
            }
        }
    }

    /** "of each RIDER, of each SEAT minutes that come to the stretch's": "they don't add up so". */
    private static void minutesThatComeToTheStretch() {
        piecesAre(shared(2, 1, "row 0 1;row 1 0;"), 4, 1);
        piecesAre(shared(2, 99, "row 99 0;row 0 99;"), 1, 99);
        String[] wrong = {"row 5 0;row 0 4;", "row 5 0;row 0 6;", "row 4 0;row 0 5;", "row 6 0;row 0 5;", "row 5 0;row 5 0;", "row 2 3;row 2 3;",
            "row 0 0;row 0 0;", "row 3 3;row 3 3;", "row 5 0;row 1 5;", "row 5 1;row 0 5;", "row 4 1;row 2 3;", "row 99 99;row 99 99;"};
        for (String rows : wrong) {
            MiddleSeat x = shared(2, 5, rows);
            for (int what = -1; what < 3; what++) {
                Due.due("pieces(0, " + what + ") of " + rows, x.pieces(0, what), -2);
            }
        }
        MiddleSeat x = Due.on("seats 2;stretch 4 has 0 0;stretch 5 has 0 0;stretch 6 has 0 0;" + TWO);
        Due.shares(x, "row 2 3;row 3 2;");
        Due.due("other minutes", x.pieces(0, -1) + x.pieces(2, -1), -4);
        Due.due("these", x.pieces(1, -1), 2);
    }

    /** "again and again the first PLAN (by number) by which each RIDER has minutes left on his SEAT, for the least of these". */
    private static void theFirstPlanForTheLeastOfThese() {
        piecesAre(shared(3, 10, "row 5 2 3;row 4 3 3;row 1 5 4;"), 6, 3, 9, 2, 18, 1, 24, 1, 33, 3);
        piecesAre(shared(3, 10, "row 0 0 10;row 10 0 0;row 0 10 0;"), 33, 10);
        piecesAre(shared(2, 10, "row 9 1;row 1 9;"), 1, 9, 4, 1);
        piecesAre(shared(2, 10, "row 1 9;row 9 1;"), 1, 1, 4, 9);
    }

    /** "till none are left": ten are the most that four seats need. */
    private static void tillNoneAreLeft() {
        MiddleSeat x = shared(4, 99, "row 19 55 13 12;row 31 17 32 19;row 32 13 23 31;row 17 14 31 37;");
        piecesAre(x, 27, 17, 39, 2, 75, 6, 78, 25, 99, 12, 108, 6, 114, 6, 177, 13, 225, 1, 228, 11);
        int minutes = 0;
        for (int i = 0; i < 10; i++) {
            minutes += x.pieces(0, 2 * i + 1);
        }
        Due.due("all minutes", minutes, 99);
    }

    /** "-2: others, no SHARES". */
    private static void piecesOfOthers() {
        MiddleSeat x = Due.on("seats 2;stretch 5 has 0 0;" + TWO);
        Due.due("no shares", x.pieces(0, -1), -2);
        Due.shares(x, "row 5 0;row 0 5;");
        Due.due("one piece", x.pieces(0, -1) * 100 + x.pieces(0, 0) * 10 + x.pieces(0, 1), 115);
        for (int none : NO_INDEX) {
            Due.due("stretch " + none, x.pieces(none, -1), -2);
            Due.due("what " + none, x.pieces(0, none), -2);
        }
        Due.due("stretch -1", x.pieces(-1, -1), -2);
        Due.due("stretch 1 of 1", x.pieces(1, -1), -2);
        Due.due("what 2", x.pieces(0, 2), -2);
        Due.due("what 3", x.pieces(0, 3), -2);
        Due.due("a wrong row", Due.shares(x, "row 5 0;row 0 100;"), 4 + 16 * 14);
        Due.due("the shares stay", x.pieces(0, -1), 1);
        Due.due("the road again", Due.road(x, "seats 2;stretch 5 has 0 0;" + TWO), 0);
        Due.due("no shares any more", x.pieces(0, -1), -2);
    }

    /** "LAWFUL or not". */
    private static void lawfulOrNot() {
        MiddleSeat x = Due.on("seats 3;stretch 9 has 0 0 0;rider a sick dash 1 past 0;rider b plain dash 1 past 0;rider c plain dash 1 past 0;"
            + "apart a b;never c 2;never b 0;never b 1;never b 2;");
        Due.due("no plan is lawful", x.plans(), 0);
        Due.shares(x, "row 0 9 0;row 9 0 0;row 0 0 9;");
        piecesAre(x, 18, 9);
    }

    // ---- promise 20

    /** A law by which each of four kinds has WORTHS of his own of SEATS that have 0 1 2 3. */
    private static MiddleSeat bazaar(int seats, int[][] worths, String more) {
        String[] kinds = {"plain", "sick", "sleeper", "small"};
        StringBuilder text = new StringBuilder("seats " + seats + ";stretch 1 has" + " 0 1 2 3".substring(0, 2 * seats) + ";worth 0");
        for (int rider = 0; rider < seats; rider++) {
            for (int seat = 0; seat < seats; seat++) {
                text.append("+(kind=").append(rider).append(")*(base=").append(seat).append(")*").append(worths[rider][seat]);
            }
        }
        text.append(";");
        for (int rider = 0; rider < seats; rider++) {
            text.append("rider ").append((char) ('a' + rider)).append(' ').append(kinds[rider]).append(" dash 1 past 0;");
        }
        return Due.on(text + more);
    }

    private static void toffeesAre(MiddleSeat x, int... due) {
        for (int what = -1; what + 1 < due.length; what++) {
            Due.due("toffees(0, " + what + ")", x.toffees(0, what), due[what + 1]);
        }
    }

    /** "as many RIDERS as SEATS": "fewer RIDERS than SEATS". */
    private static void asManyRidersAsSeatsForToffees() {
        for (int seats = 2; seats <= 4; seats++) {
            StringBuilder text = new StringBuilder("seats " + seats + ";stretch 1 has" + " 1".repeat(seats) + ";");
            for (int riders = 0; riders <= seats; riders++) {
                MiddleSeat x = Due.on(text.toString());
                Due.due("a price for " + riders + " on " + seats, x.toffees(0, 0), riders == seats ? 0 : -2);
                Due.due("no plan for " + riders + " on " + seats, x.toffees(0, -1) == -2, riders < seats);
                text.append("rider ").append((char) ('a' + riders)).append(" plain dash 1 past 0;");
            }
        }
    }

    /** "the PLAN with the greatest sum of WORTHS (of equal ones the first)". */
    private static void toffeesOfTheGreatestSum() {
        toffeesAre(bazaar(2, new int[][] {{0, 0}, {0, 0}}, ""), 1, 0, 0);
        toffeesAre(bazaar(2, new int[][] {{5, 7}, {3, 5}}, ""), 1, 0, 2);
        toffeesAre(bazaar(2, new int[][] {{5, 8}, {3, 5}}, ""), 4, 0, 2);
        toffeesAre(bazaar(2, new int[][] {{5, 7}, {3, 6}}, ""), 1, 0, 2);
        toffeesAre(bazaar(4, new int[][] {{0, 0, 0, 9}, {0, 0, 9, 0}, {0, 9, 0, 0}, {9, 0, 0, 0}}, ""), 228, 0, 0, 0, 0);
        toffeesAre(bazaar(4, new int[4][4], ""), 27, 0, 0, 0, 0);
        toffeesAre(bazaar(2, new int[][] {{999, 999}, {999, 0}}, ""), 4, 0, 0);
    }

    /** "the least prices of SEATS, none below 0, by which none would rather have another SEAT at its price". */
    private static void theLeastPrices() {
        int[][][] tables = {{{5, 7, 2}, {6, 1, 4}, {3, 3, 3}}, {{2, 2, 3}, {3, 2, 2}, {2, 3, 3}}, {{4, 0, 1}, {5, 1, 0}, {6, 2, 2}},
            {{0, 1, 2}, {0, 1, 2}, {0, 1, 2}}, {{6, 0, 6}, {6, 0, 5}, {6, 1, 6}}, {{0, 6, 5}, {1, 6, 4}, {0, 5, 5}}};
        for (int[][] table : tables) {
            MiddleSeat x = bazaar(3, table, "");
            int plan = x.toffees(0, -1);
            int[] seats = {plan >> 4 & 3, plan >> 2 & 3, plan & 3};
            int[] least = {99, 99, 99};
            for (int i = 0; i < 13 * 13 * 13; i++) {
                int[] price = {i / 169, i / 13 % 13, i % 13};
                if (nobodyWouldRather(table, seats, price)) {
                    for (int seat = 0; seat < 3; seat++) {
                        least[seat] = Math.min(least[seat], price[seat]);
                    }
                }
            }
            Due.due("they are prices together", nobodyWouldRather(table, seats, least), true);
            toffeesAre(x, plan, least[0], least[1], least[2]);
        }
    }

    private static boolean nobodyWouldRather(int[][] table, int[] seats, int[] price) {
        for (int rider = 0; rider < seats.length; rider++) {
            for (int seat = 0; seat < price.length; seat++) {
                if (table[rider][seat] - price[seat] > table[rider][seats[rider]] - price[seats[rider]]) {
                    return false;
                }
            }
        }
        return true;
    }

    /** A price that is pushed up along all SEATS, from the left and from the right. */
    private static void pricesAlongAllSeats() {
        toffeesAre(bazaar(4, new int[][] {{9, 0, 0, 0}, {7, 5, 0, 0}, {0, 7, 5, 0}, {0, 0, 7, 5}}, ""), 27, 6, 4, 2, 0);
        toffeesAre(bazaar(4, new int[][] {{5, 7, 0, 0}, {0, 5, 7, 0}, {0, 0, 5, 7}, {0, 0, 0, 9}}, ""), 27, 0, 2, 4, 6);
        toffeesAre(bazaar(4, new int[][] {{5, 0, 0, 7}, {0, 9, 0, 0}, {0, 7, 5, 0}, {0, 0, 7, 5}}, ""), 27, 0, 6, 4, 2);
    }

    /** "tip and LAWS aside". */
    private static void tipAndLawsAside() {
        toffeesAre(bazaar(3, new int[][] {{0, 0, 9}, {0, 9, 0}, {9, 0, 0}}, "never a 2;never b 1;never c 0;apart a b;apart b c;gap 0;"), 2 * 16 + 1 * 4, 0, 0, 0);
        MiddleSeat x = Due.on("seats 3;stretch 1 has 1 2 3;rider a sleeper dash 1 past 0;rider b sleeper dash 1 past 0;rider c sleeper dash 1 past 0;worth base+tip*50;");
        toffeesAre(x, 6, 0, 1, 2);
        Due.due("tip is there else", x.worth(6, 1, 0), 102);
    }

    /** "-2: others". */
    private static void toffeesOfOthers() {
        for (int seats = 2; seats <= 4; seats++) {
            MiddleSeat x = bazaar(seats, new int[][] {{5, 7, 7, 7}, {7, 5, 5, 5}, {5, 5, 7, 5}, {5, 5, 5, 7}}, "");
            for (int what = -3; what <= 6; what++) {
                Due.due("toffees(0, " + what + ") of " + seats, x.toffees(0, what) == -2, what < -1 || what >= seats);
            }
            for (int none : NO_INDEX) {
                Due.due("stretch " + none, x.toffees(none, -1), -2);
                Due.due("what " + none, x.toffees(0, none), -2);
            }
            Due.due("stretch -1", x.toffees(-1, -1), -2);
            Due.due("stretch 1 of 1", x.toffees(1, 0), -2);
        }
    }

    // ---- promise 21

    /** "each time one of those left, as likely as his dash by all dashes left". */
    private static void asLikelyAsHisDash() {
        MiddleSeat x = Due.on("seats 4;stretch 1 has 9 8 7 6;" + FOUR.replace("sick", "plain"));
        long[][] due = {{1, 10, 113, 840, 3, 14, 463, 840}, {1, 5, 76, 315, 20, 63, 76, 315},
            {3, 10, 37, 120, 11, 42, 109, 840}, {2, 5, 199, 630, 13, 63, 7, 90}};
        for (int rider = 0; rider < 4; rider++) {
            for (int seat = 0; seat < 4; seat++) {
                chanceIs(x, rider, seat, due[rider][2 * seat], due[rider][2 * seat + 1]);
            }
        }
        MiddleSeat great = Due.on("seats 4;stretch 1 has 9 8 7 6;rider a plain dash 9 past 0;rider b plain dash 8 past 0;"
            + "rider c plain dash 7 past 0;rider d plain dash 5 past 0;");
        chanceIs(great, 0, 0, 9, 29);
        chanceIs(great, 0, 2, 146061, 607376);
        chanceIs(great, 1, 2, 267494, 1057485);
        chanceIs(great, 3, 3, 22325, 58058);
        MiddleSeat two = Due.on("seats 2;stretch 1 has 0 1;rider a plain dash 9 past 0;rider b plain dash 1 past 0;");
        chanceIs(two, 0, 1, 9, 10);
        chanceIs(two, 1, 1, 1, 10);
        chanceIs(two, 0, 0, 1, 10);
        chanceIs(two, 1, 0, 9, 10);
    }

    /** "each takes the free SEAT that has most (of equal ones the first)". */
    private static void theSeatThatHasMost() {
        MiddleSeat alone = Due.on("seats 4;stretch 1 has 0 9 9 8;stretch 2 has 0 0 0 0;stretch 3 has 1 2 3 4;rider a plain dash 3 past 0;");
        int[] taken = {1, 0, 3};
        for (int stretch = 0; stretch < 3; stretch++) {
            for (int seat = 0; seat < 4; seat++) {
                Due.due("stretch " + stretch + ", seat " + seat, alone.door(stretch, 0, seat, 0), seat == taken[stretch] ? 1 : 0);
                Due.due("below", alone.door(stretch, 0, seat, 1), 1);
            }
        }
        MiddleSeat two = Due.on("seats 3;stretch 1 has 5 5 5;rider a plain dash 1 past 0;rider b plain dash 1 past 0;");
        chanceIs(two, 0, 0, 1, 2);
        chanceIs(two, 1, 1, 1, 2);
        chanceIs(two, 1, 2, 0, 1);
        MiddleSeat worth = Due.on("seats 2;stretch 1 has 0 9;rider a plain dash 1 past 0;worth 9-base;");
        chanceIs(worth, 0, 1, 1, 1);
    }

    /** "where he may sit (never, ends of the sick), or none". */
    private static void whereHeMaySitOrNone() {
        for (int seats = 2; seats <= 4; seats++) {
            MiddleSeat sick = Due.on("seats " + seats + ";stretch 1 has" + " 0 9 9 9".substring(0, 2 * seats) + ";rider a sick dash 1 past 0;");
            chanceIs(sick, 0, seats - 1, 1, 1);
        }
        MiddleSeat never = Due.on("seats 3;stretch 1 has 9 5 7;rider a plain dash 1 past 0;never a 0;never a 2;");
        chanceIs(never, 0, 1, 1, 1);
        chanceIs(never, 0, 0, 0, 1);
        MiddleSeat none = Due.on("seats 2;stretch 1 has 9 5;rider a plain dash 1 past 0;rider b plain dash 3 past 0;never a 0;never a 1;");
        chanceIs(none, 0, 0, 0, 1);
        chanceIs(none, 0, 1, 0, 1);
        chanceIs(none, 1, 0, 1, 1);
        MiddleSeat all = Due.on("seats 3;stretch 1 has 1 9 5;rider a sick dash 1 past 0;rider b sick dash 2 past 0;rider c sick dash 3 past 0;");
        chanceIs(all, 0, 2, 1, 6);
        chanceIs(all, 0, 0, 1, 4);
        chanceIs(all, 0, 1, 0, 1);
        MiddleSeat apart = Due.on("seats 2;stretch 1 has 1 2;" + TWO + "apart a b;");
        chanceIs(apart, 0, 0, 1, 2);
    }

    /** "in lowest terms": nothing is 0 of 1, all 1 of 1. */
    private static void inLowestTerms() {
        MiddleSeat x = Due.on("seats 2;stretch 1 has 1 2;rider a plain dash 6 past 0;rider b plain dash 9 past 0;");
        chanceIs(x, 0, 1, 2, 5);
        chanceIs(x, 1, 1, 3, 5);
        MiddleSeat sure = Due.on("seats 4;stretch 1 has 1 2 3 4;rider a plain dash 9 past 0;rider b plain dash 8 past 0;never a 0;never a 1;never a 2;"
            + "never b 1;never b 2;never b 3;");
        chanceIs(sure, 0, 3, 1, 1);
        chanceIs(sure, 1, 0, 1, 1);
        chanceIs(sure, 1, 3, 0, 1);
        for (int dash = 1; dash <= 9; dash++) {
            MiddleSeat like = Due.on("seats 3;stretch 1 has 1 2 3;" + "rider a plain dash 1 past 0;rider b plain dash 1 past 0;rider c plain dash 1 past 0;".replace("dash 1", "dash " + dash));
            for (int seat = 0; seat < 3; seat++) {
                chanceIs(like, seat, 2 - seat, 1, 3);
            }
        }
    }

    /** "NONE: others". */
    private static void doorOfOthers() {
        MiddleSeat x = Due.on("seats 3;stretch 1 has 1 2 3;stretch 1 has 1 2 3;" + TWO);
        for (int none : NO_INDEX) {
            Due.due("stretch " + none, x.door(none, 0, 0, 0), -1);
            Due.due("rider " + none, x.door(0, none, 0, 0), -1);
            Due.due("seat " + none, x.door(0, 0, none, 0), -1);
            Due.due("what " + none, x.door(0, 0, 0, none), -1);
        }
        Due.due("-1 each", x.door(-1, 0, 0, 0) + x.door(0, -1, 0, 0) + x.door(0, 0, -1, 0) + x.door(0, 0, 0, -1), -4);
        Due.due("stretch 2 of 2", x.door(2, 0, 0, 0), -1);
        Due.due("rider 2 of 2", x.door(0, 2, 0, 0), -1);
        Due.due("seat 3 of 3", x.door(0, 0, 3, 0), -1);
        Due.due("what 2", x.door(0, 0, 0, 2), -1);
        Due.due("the last of all", x.door(1, 1, 2, 1), 2);
        Due.due("no seat", Due.on("seats 2;stretch 1 has 1 1;").door(0, 0, 0, 0), -1);
    }

    // ---- promises 22 and 23

    /** A rule for one RIDER on 4 stretches: his SEATS. */
    private static void ruleLeads(int seats, String law, int... due) {
        MiddleSeat x = Due.on("seats " + seats + ";" + ("stretch 1 has" + " 0".repeat(seats) + ";").repeat(4) + "rider a plain dash 1 past 0;rule r " + law + ";");
        for (int stretch = 0; stretch < due.length; stretch++) {
            Due.due("rule " + law + " on " + seats + ", stretch " + stretch, x.called(0, 1 + stretch), due[stretch]);
        }
    }

    /** "the SEAT that is its E modulo the SEATS (not below 0"; an E is not held to 0 to 999 there. */
    private static void moduloTheSeatsNotBelowZero() {
        for (int seats = 2; seats <= 4; seats++) {
            ruleLeads(seats, "0-1", seats - 1);
            ruleLeads(seats, "0-" + seats, 0);
            ruleLeads(seats, "0-" + seats + "-1", seats - 1);
            ruleLeads(seats, "" + seats, 0);
            ruleLeads(seats, "" + (seats - 1), seats - 1);
            ruleLeads(seats, "9999", 9999 % seats);
            ruleLeads(seats, "1001", 1001 % seats);
            ruleLeads(seats, "0-9998", (10000 * seats - 9998) % seats);
            ruleLeads(seats, "8192*8192*32", Math.floorMod(Integer.MIN_VALUE, seats));
            ruleLeads(seats, "8192*8192*32-1", Math.floorMod(Integer.MAX_VALUE, seats));
        }
    }

    /** "seat: where he sat, at the begin his number)". */
    private static void seatAtTheBeginHisNumber() {
        ruleLeads(4, "seat", 0, 0, 0, 0);
        ruleLeads(4, "seat+1", 1, 2, 3, 0);
        ruleLeads(3, "seat-1", 2, 1, 0, 2);
        ruleLeads(2, "1-seat", 1, 0, 1, 0);
        ruleLeads(4, "2*seat+1", 1, 3, 3, 3);
        MiddleSeat x = Due.on("seats 4;stretch 1 has 0 0 0 0;stretch 1 has 0 0 0 0;" + FOUR.replace("sick", "plain") + "rule r seat;rule q who;rule p 3-who;");
        for (int stretch = 0; stretch < 2; stretch++) {
            Due.due("all by their numbers", x.called(0, 1 + stretch), 27);
            Due.due("who they are", x.called(1, 1 + stretch), 27);
            Due.due("the other way", x.called(2, 1 + stretch), 228);
        }
        x.sit(0, 3);
        x.sit(1, 0);
        Due.due("whatever is done by hand", x.called(0, 1), 27);
    }

    /** "stop (0: the begin)". */
    private static void stopZeroIsTheBegin() {
        ruleLeads(4, "stop", 0, 1, 2, 3);
        ruleLeads(4, "stop=0", 1, 0, 0, 0);
        ruleLeads(4, "seat+stop", 0, 1, 3, 2);
    }

    /** "a journey by it is one only if no two come to one SEAT". */
    private static void onlyOneIfNoTwoComeToOneSeat() {
        String two = "seats 3;stretch 1 has 0 0 0;stretch 1 has 0 0 0;stretch 1 has 0 0 0;" + TWO;
        Due.due("all at the begin", Due.on(two + "rule r 1;").called(0, 0), -1);
        Due.due("at the last stop", Due.on(two + "rule r who*(stop<2);").called(0, 0), -1);
        Due.due("no plan of the first stretch then", Due.on(two + "rule r who*(stop<2);").called(0, 1), -1);
        Due.due("behind the last stretch", Due.on(two + "rule r who*(stop<3);").called(0, 0), 0);
        Due.due("by the seats only", Due.on(two + "rule r who*3;").called(0, 0), -1);
        Due.due("one may take the other's", Due.on(two + "rule r 1-seat;").called(0, 1), 4);
        Due.due("none without riders", Due.on(NO_RIDER).called(0, 0), -1);
    }

    /** "and each PLAN is LAWFUL". */
    private static void onlyOneIfEachPlanIsLawful() {
        String two = "seats 3;stretch 1 has 0 0 0;stretch 1 has 0 0 0;stretch 1 has 0 0 0;" + TWO;
        Due.due("where a never is at last", Due.on(two + "rule r seat+(who=0)*(stop=2)*2+(who=1)*0;never a 2;").called(0, 0), -1);
        Due.due("where he isn't led", Due.on(two + "rule r seat;never a 2;never b 0;").called(0, 3), 1);
        Due.due("apart", Due.on(two + "rule r seat;apart a b;").called(0, 0), -1);
        Due.due("apart with a gap", Due.on(two + "rule r seat;apart a b;gap 0;").called(0, 1), 1);
        Due.due("the sick in the middle", Due.on("seats 3;stretch 1 has 0 0 0;rider a sick dash 1 past 0;rule r 1;rule q 2;").called(0, 0), -1);
        Due.due("the sick at an end", Due.on("seats 3;stretch 1 has 0 0 0;rider a sick dash 1 past 0;rule r 1;rule q 2;").called(1, 1), 2);
    }

    /** "NONE: others": no rule, no stretch. */
    private static void calledOfOthers() {
        for (int rules = 0; rules <= 4; rules++) {
            StringBuilder text = new StringBuilder("seats 2;stretch 1 has 0 9;stretch 1 has 0 9;" + TWO);
            for (int rule = 0; rule < rules; rule++) {
                text.append("rule r").append((char) ('a' + rule)).append(" who;");
            }
            MiddleSeat x = Due.on(text.toString());
            for (int rule = -1; rule <= 5; rule++) {
                for (int what = -2; what <= 5; what++) {
                    boolean there = rule >= 0 && rule < rules && what >= 0 && what <= 2;
                    Due.due("called(" + rule + ", " + what + ") of " + rules, x.called(rule, what), !there ? -1 : what == 0 ? 18 : 1);
                }
            }
            MiddleSeat alone = Due.on(text.toString().replace("rider b plain dash 1 past 0;", "") + "worth 5;");
            for (int rule = -1; rule <= 5; rule++) {
                boolean there = rule >= 0 && rule < rules;
                Due.due("alone: called(" + rule + ", 1) of " + rules, alone.called(rule, 1), there ? 0 : -1);
            }
            Due.due("alone: fairest of " + rules, alone.fairest(), rules == 0 ? -1 : 0);
            for (int none : NO_INDEX) {
                Due.due("rule " + none, x.called(none, 0), -1);
                Due.due("what " + none, x.called(0, none), -1);
            }
        }
    }

    /** "FAIREST: the rule with the least SPREAD of TOTALS (fights counted); of equal ones the first". */
    private static void fairestOfEqualOnesTheFirst() {
        String two = "seats 2;stretch 10 has 0 1;stretch 10 has 0 1;" + TWO;
        Due.due("one", Due.on(two + "rule ra seat;").fairest(), 0);
        Due.due("of equal ones", Due.on(two + "rule ra seat;rule rb who;rule rc 1-who;rule rd 3-who;").fairest(), 0);
        Due.due("the last", Due.on(two + "rule ra seat;rule rb who;rule rc 1-who;rule rd 1-seat;").fairest(), 3);
        Due.due("the first that is a journey", Due.on(two + "rule ra 1;rule rb stop;rule rc who;rule rd 1-who;").fairest(), 2);
        Due.due("the first of the least", Due.on(two + "rule ra who;rule rb 1-seat;rule rc seat+1;rule rd 0;").fairest(), 1);
        // By c a alone changes, from 0 to 2; he has 10 more then, and a fight of 10 less.
        String three = "seats 3;stretch 10 has 0 0 1;stretch 10 has 0 0 1;" + TWO;
        Due.due("fights counted", Due.on(three + "fight 10;rule ra who+(who=0)*(stop=1)*2;rule rb who+(who=0)*2;").fairest(), 0);
        Due.due("dearer ones", Due.on(three + "fight 99;rule ra who+(who=0)*(stop=1)*2;rule rb who+(who=0)*2;").fairest(), 1);
        Due.due("past counted", Due.on("seats 2;stretch 1 has 0 9;rider a plain dash 1 past 9;rider b plain dash 1 past 0;rule ra 1-who;rule rb who;").fairest(), 1);
    }

    /** "NONE: no rule is a journey, no RIDER". */
    private static void fairestNone() {
        String two = "seats 2;stretch 10 has 0 1;" + TWO;
        Due.due("no rule", Due.on(two).fairest(), -1);
        String one = "seats 2;stretch 10 has 0 1;rider a plain dash 1 past 0;never a 0;worth 1;";
        Due.due("no rule of one", Due.on(one).fairest(), -1);
        Due.due("no journey of one", Due.on(one + "rule ra 0;rule rb 2;").fairest(), -1);
        Due.due("one of one", Due.on(one + "rule ra 0;rule rb 1;").fairest(), 1);
        Due.due("no journey", Due.on(two + "rule ra 0;rule rb 1;rule rc 2;rule rd stop;").fairest(), -1);
        Due.due("no plan", Due.on(NO_PLAN).fairest(), -1);
        Due.due("no rider", Due.on(NO_RIDER).fairest(), -1);
        Due.due("neither", new MiddleSeat().fairest(), -1);
    }

    // ---- promise 25

    /** "LAWFUL journeys by which all SEEN is so: how many; the first": none, one, and all there can be. */
    private static void howManyFit() {
        MiddleSeat x = Due.on("seats 4;" + "stretch 1 has 0 0 0 0;".repeat(4) + FOUR.replace("sick", "plain"));
        Due.due("all", x.fits(0), 24 * 24 * 24 * 24);
        Due.due("the first", x.fits(3) * 1000 + x.fits(6), 27027);
        x.see(0, 3, 3, true);
        Due.due("a quarter", x.fits(0), 24 * 24 * 24 * 6);
        Due.due("the first on it", x.fits(6), 3 * 64 + 0 * 16 + 1 * 4 + 2);
        Due.due("the first on another", x.fits(5), 27);
        x.see(0, 0, 0, false);
        Due.due("three quarters of it", x.fits(0), 18 * 24 * 24 * 6);
        Due.due("the first of them", x.fits(3), 1 * 64 + 0 * 16 + 2 * 4 + 3);
        x.see(0, 3, 3, true);
        Due.due("seen twice", x.fits(0), 18 * 24 * 24 * 6);
        x.see(1, 3, 3, true);
        Due.due("two on one seat", x.fits(0), 0);
        for (int what = 1; what < 9; what++) {
            Due.due("none: fits(" + what + ")", x.fits(what), -1);
        }
        MiddleSeat one = Due.on("seats 2;stretch 1 has 0 0;" + TWO + "never a 0;");
        Due.due("one", one.fits(0) * 10 + one.fits(3), 14);
        Due.due("none", Due.on(NO_PLAN).fits(0), 0);
        Due.due("none of it", Due.on(NO_PLAN).fits(3), -1);
        Due.due("of nobody", Due.on(NO_RIDER).fits(0) * 10 + Due.on(NO_RIDER).fits(3), 10);
    }

    /** "at which stops (bits; stop 0 behind stretch 0) somebody changed in all of them, in none of them". */
    private static void inAllInNone() {
        String four = "seats 2;" + "stretch 1 has 0 0;".repeat(4) + TWO;
        for (int bits = 0; bits < 16; bits++) {
            MiddleSeat x = Due.on(four);
            for (int stretch = 0; stretch < 4; stretch++) {
                x.see(1, bits >> stretch & 1, stretch, stretch % 2 == 0);
            }
            int seats = bits ^ 10;
            int changed = (seats ^ seats >> 1) & 7;
            Due.due("one", x.fits(0), 1);
            Due.due("in all", x.fits(1), changed);
            Due.due("in none", x.fits(2), 7 - changed);
        }
        MiddleSeat open = Due.on(four);
        Due.due("neither", open.fits(1) * 10 + open.fits(2), 0);
        open.see(0, 0, 1, true);
        open.see(0, 1, 2, true);
        Due.due("stop 1 alone in all", open.fits(1) * 10 + open.fits(2), 20);
        MiddleSeat bound = Due.on("seats 3;" + "stretch 1 has 0 0 0;".repeat(2) + "rider a plain dash 1 past 0;never a 1;");
        bound.see(0, 0, 0, true);
        Due.due("two, in one he changed", bound.fits(0) * 100 + bound.fits(1) * 10 + bound.fits(2), 200);
        bound.see(0, 2, 1, false);
        Due.due("one, in none", bound.fits(0) * 100 + bound.fits(1) * 10 + bound.fits(2), 101);
        MiddleSeat single = Due.on("seats 2;stretch 1 has 0 0;" + TWO);
        Due.due("no stop", single.fits(1) * 10 + single.fits(2), 0);
        MiddleSeat nobody = Due.on("seats 2;" + "stretch 1 has 0 0;".repeat(4));
        Due.due("nobody changes", nobody.fits(1) * 10 + nobody.fits(2), 7);
    }

    /** "NONE: others". */
    private static void fitsOfOthers() {
        for (int many = 0; many <= 4; many++) {
            MiddleSeat x = Due.on("seats 2;" + "stretch 1 has 0 1;".repeat(many) + TWO);
            for (int what = -3; what <= 9; what++) {
                Due.due("fits(" + what + ") of " + many, x.fits(what) != -1, what >= 0 && what < 3 + many);
            }
            Due.due("least", x.fits(Integer.MIN_VALUE), -1);
            Due.due("greatest", x.fits(Integer.MAX_VALUE), -1);
        }
    }

    // ---- promise 26

    /** "A DRAW below m: g becomes (g * 1103515245 + 12345) modulo 2147483648 [...] it is g / 65536, cut, modulo m". */
    private static void aDraw() {
        int[][] due = {{0, 1, 105, 0}, {0, 2, 140, 2}, {0, 59, 1610, 44}, {0, 60, 1620, 45}, {1, 1, 45, 0}, {1, 2, 105, 1}, {1, 59, 1700, 43},
            {1, 60, 1690, 43}, {9998, 1, 80, 1}, {9998, 60, 1900, 52}, {9999, 1, 100, 0}, {9999, 2, 75, 1}, {9999, 59, 1960, 49}, {9999, 60, 1970, 50}};
        MiddleSeat x = Due.on(Snapshot.ROAD);
        for (int[] one : due) {
            Due.due("years(" + one[0] + ", " + one[1] + ", 0)", x.years(one[0], one[1], 0), one[2]);
            Due.due("years(" + one[0] + ", " + one[1] + ", 1)", x.years(one[0], one[1], 1), one[3]);
        }
        // Seed 0: g is 12345, its draw 0: a. Then b is drawn, too, though he alone is left: a draw below 1.
        MiddleSeat two = Due.on("seats 2;stretch 1 has 0 1;rider a plain dash 1 past 0;rider b plain dash 1 past 0;");
        long g = 0;
        int ahead = 0;
        for (int journeys = 1; journeys <= 60; journeys++) {
            g = (g * 1103515245L + 12345L) % 2147483648L;
            ahead += g / 65536 % 2 == 0 ? 1 : -1;
            g = (g * 1103515245L + 12345L) % 2147483648L;
            Due.due("two draws for two, " + journeys, two.years(0, journeys, 0), Math.abs(ahead));
        }
    }

    /** "YEARS by a SEED of so many journeys (1 to 60)"; "a SEED (0 to 9999)". */
    private static void seedsAndJourneys() {
        MiddleSeat x = Due.on("seats 2;stretch 1 has 0 1;rider a plain dash 1 past 0;never a 0;");
        for (int what = 0; what < 2; what++) {
            for (int seed : new int[] {-1, -2, 10000, 10001, Integer.MIN_VALUE, Integer.MAX_VALUE}) {
                Due.due("seed " + seed, x.years(seed, 1, what), -1);
            }
            for (int journeys : new int[] {0, -1, 61, 62, Integer.MIN_VALUE, Integer.MAX_VALUE}) {
                Due.due("journeys " + journeys, x.years(0, journeys, what), -1);
            }
            for (int seed : new int[] {0, 1, 9998, 9999}) {
                for (int journeys : new int[] {1, 2, 59, 60}) {
                    Due.due("seed " + seed + ", journeys " + journeys, x.years(seed, journeys, what), 0);
                }
            }
        }
    }

    /** "who has one gets its WORTH (with those beside him when all have come)", "(with past, without fights)". */
    private static void whoHasOneGetsItsWorth() {
        MiddleSeat tips = Due.on("seats 2;stretch 1 has 0 0;rider a plain dash 1 past 0;rider b sleeper dash 1 past 0;worth tip*7;");
        for (int seed = 0; seed < 8; seed++) {
            Due.due("the sleeper came before or behind", tips.years(seed, 1, 0), 7);
        }
        MiddleSeat gone = Due.on("seats 2;stretch 1 has 0 0;rider a plain dash 1 past 0;rider b sleeper dash 1 past 0;never b 0;never b 1;worth tip*7+1;");
        Due.due("who has none sits beside nobody", gone.years(0, 10, 0) * 100 + gone.years(0, 10, 1), 1010);
        MiddleSeat fight = Due.on("seats 2;stretch 1 has 0 1;stretch 1 has 1 0;rider a plain dash 1 past 5;rider b plain dash 1 past 0;never b 0;never b 1;fight 99;");
        Due.due("without fights", fight.years(3, 60, 0), 5 + 120);
        MiddleSeat apart = Due.on("seats 2;stretch 1 has 1 1;" + TWO + "apart a b;");
        Due.due("though apart", apart.years(3, 60, 1), 0);
        MiddleSeat hand = Due.on("seats 2;stretch 1 has 3 3;rider a plain dash 1 past 5;rider b plain dash 1 past 0;");
        hand.sit(0, 0);
        hand.sit(1, 1);
        hand.drive();
        Due.due("from past, not from what is now", hand.years(0, 1, 0), 5);
        Due.due("nothing is done by hand then", Due.rider(hand, 0, 4), 8);
    }

    /** "how often somebody had none": each time, each RIDER. */
    private static void howOftenSomebodyHadNone() {
        String never = "";
        for (char rider = 'a'; rider <= 'd'; rider++) {
            for (int seat = 0; seat < 4; seat++) {
                never += "never " + rider + seat + ";";
            }
            MiddleSeat x = Due.on("seats 4;" + "stretch 1 has 9 9 9 9;".repeat(4) + FOUR.replace("sick", "plain") + never);
            Due.due("up to " + rider, x.years(9999, 60, 1), 240 * (rider - 'a' + 1));
            Due.due("one time", x.years(0, 1, 1), 4 * (rider - 'a' + 1));
        }
        MiddleSeat sick = Due.on("seats 3;stretch 1 has 0 0 0;" + TWO.replace("plain", "sick") + "rider c sick dash 1 past 0;");
        Due.due("three of the sick, two ends", sick.years(77, 60, 1), 60);
        Due.due("nobody ever", Due.on("seats 4;stretch 1 has 0 0 0 0;" + FOUR.replace("sick", "plain")).years(77, 60, 1), 0);
    }

    /** "NONE: others, no RIDER". */
    private static void yearsOfOthers() {
        MiddleSeat x = Due.on(Snapshot.ROAD);
        for (int what : new int[] {-1, -2, 2, 3, Integer.MIN_VALUE, Integer.MAX_VALUE}) {
            Due.due("what " + what, x.years(0, 1, what), -1);
        }
        Due.due("no rider", Due.on(NO_RIDER).years(0, 1, 0) + Due.on(NO_RIDER).years(0, 1, 1), -2);
        Due.due("neither", new MiddleSeat().years(0, 1, 1), -1);
        Due.due("no plan, but the door", Due.on(NO_PLAN).years(0, 60, 0) * 100 + Due.on(NO_PLAN).years(0, 60, 1), 60);
    }
}
