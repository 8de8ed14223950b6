import java.util.Arrays;
import java.util.NoSuchElementException;

/**
 * Who has the middle seat: roads told in a small language, journeys by hand and as a whole,
 * shares, prices, chances at the door, rules, what was seen, and years drawn.
 */
public final class MiddleSeat {
    /** None. */
    public static final int NONE = -1;

    private static final int OTHERS = -2;
    private static final int NOT_JUDGED = -99999;
    private static final int SEATS = 4;
    private static final int STRETCHES = 4;
    private static final int RULES = 4;
    private static final int PLANS = 24;
    private static final int MOVES = 12;
    private static final int SIGNS = 1000;
    private static final int LINES = 20;
    private static final int UNDOS = 16;
    private static final int MARKS = 4;
    private static final int SEEN = 10;
    private static final int YEARS = 60;
    private static final int SEEDS = 9999;

    private final Tape tape;
    private final Reader reader;
    private Road land;
    private Road spareLand;
    private Told told;
    private Told spareTold;
    private final Moment now;
    private final Moment[] marks;
    private final Seating[] undos;
    private int undoCount;
    private int undoNext;
    private final Seating judge;
    private final int[] calledPlans;
    private final int[] fitting;
    private final int[] seats;
    private final int[] spareShares;
    private final Journeys whole;
    private final Pieces cut;
    private final Toffees market;
    private final Door entrance;

    /** Seats 2, nothing else. */
    public MiddleSeat() {
        tape = new Tape();
        reader = new Reader(tape);
        land = new Road();
        spareLand = new Road();
        told = new Told();
        spareTold = new Told();
        now = new Moment();
        marks = new Moment[MARKS];
        for (int i = 0; i < MARKS; i++) {
            marks[i] = new Moment();
        }
        undos = new Seating[UNDOS];
        for (int i = 0; i < UNDOS; i++) {
            undos[i] = new Seating();
        }
        judge = new Seating();
        calledPlans = new int[STRETCHES];
        fitting = new int[STRETCHES];
        seats = new int[SEATS];
        spareShares = new int[SEATS * SEATS];
        whole = new Journeys();
        cut = new Pieces();
        market = new Toffees();
        entrance = new Door();
        land.clear();
        beginRoad();
    }

    /** Signs come behind the TAPE: how many there are. */
    public int feed(long a, long b, long c) {
        tape.addBytesOf(a);
        tape.addBytesOf(b);
        tape.addBytesOf(c);
        return tape.length;
    }

    /** The TAPE is read as a ROAD: 0, or its FAULT. */
    public int road() {
        int fault = reader.readRoad(spareLand);
        if (fault == 0) {
            Road old = land;
            land = spareLand;
            spareLand = old;
            beginRoad();
        }
        return fault;
    }

    /** The TAPE is read as a JOURNEY: 0, or its FAULT. */
    public int journey() {
        int fault = reader.readJourney(land, spareTold);
        if (fault == 0) {
            Told old = told;
            told = spareTold;
            spareTold = old;
        }
        return fault;
    }

    /** The TAPE is read as SHARES: 0, or its FAULT. */
    public int shares() {
        int fault = reader.readShares(land, spareShares);
        if (fault == 0) {
            System.arraycopy(spareShares, 0, now.minutes, 0, spareShares.length);
            now.shared = true;
        }
        return fault;
    }

    /** Of a RIDER his KIND, dash, past, SEAT now, total now. */
    public int rider(int rider, int what) throws NoSuchElementException {
        if (!isRider(rider)) {
            throw new NoSuchElementException("no such rider");
        }
        switch (what) {
            case 0:
                return land.kind[rider];
            case 1:
                return land.dash[rider];
            case 2:
                return land.past[rider];
            case 3:
                return now.seating.seat[rider];
            case 4:
                return now.seating.total[rider];
            default:
                return NONE;
        }
    }

    /** Of a stretch its minutes, or what a SEAT has. */
    public int stretch(int stretch, int what) {
        if (!isStretch(stretch) || what < 0 || what > land.seats) {
            return NONE;
        }
        return what == 0 ? land.minutesOf(stretch) : land.has(stretch, what - 1);
    }

    /** Whether a PLAN is LAWFUL: 1 or 0; NONE: it is none. */
    public int lawful(int plan) {
        if (!land.unpack(plan, seats)) {
            return NONE;
        }
        return land.allows(seats) ? 1 : 0;
    }

    /** WORTH of a PLAN to a RIDER on a stretch. */
    public int worth(int plan, int rider, int stretch) {
        if (!isRider(rider) || !isStretch(stretch) || !land.unpack(plan, seats)) {
            return NONE;
        }
        return land.worthOf(seats, rider, stretch);
    }

    /** How many LAWFUL PLANS there are. */
    public int plans() {
        return land.planCount;
    }

    /** SIT: who sat there. */
    public int sit(int rider, int seat) {
        if (!isRider(rider) || !isSeat(seat) || now.seating.seat[rider] == seat) {
            return OTHERS;
        }
        remember();
        return now.seating.take(rider, seat);
    }

    /** DRIVE: which stretch is to come then. */
    public int drive() {
        if (!now.seating.canGo(land)) {
            return NONE;
        }
        remember();
        now.seating.go(land);
        return now.seating.next;
    }

    /** UNDO: whether something was undone. */
    public boolean undo() {
        if (undoCount <= 0) {
            return false;
        }
        undoCount--;
        undoNext = (undoNext + UNDOS - 1) % UNDOS;
        now.seating.copy(undos[undoNext]);
        return true;
    }

    /** JUDGED: the first line that can't be, or a RIDER's total at last. */
    public int judged(int rider) {
        if (rider != NONE && !isRider(rider)) {
            return NOT_JUDGED;
        }
        int first = judgeTold();
        return rider == NONE ? first : judge.total[rider];
    }

    /** EVENEST with so many MOVES at most: SPREAD, MOVES, the PLANS. */
    public int evenest(int moves, int what) {
        boolean asked = moves >= 0 && moves <= MOVES && what >= 0 && what < 2 + land.stretches;
        if (!asked || land.riders == 0) {
            return NONE;
        }
        whole.prepare();
        return whole.evenestOf(moves, what);
    }

    /** MOST: the sum, or the PLAN of a stretch. */
    public int most(int what) throws NoSuchElementException {
        boolean asked = what == NONE || isStretch(what);
        if (!asked || land.riders == 0 || !land.canBeDriven()) {
            throw new NoSuchElementException("no such journey");
        }
        whole.prepare();
        return whole.greatestSum(what);
    }

    /** WORST: the greatest that the least TOTAL can be. */
    public int worst() throws NoSuchElementException {
        if (land.riders == 0 || !land.canBeDriven()) {
            throw new NoSuchElementException("no such journey");
        }
        whole.prepare();
        return whole.greatestLeast();
    }

    /** AFTER how many journeys by the EVENEST it is even. */
    public int after() {
        if (land.riders == 0 || !land.canBeDriven()) {
            return NONE;
        }
        whole.prepare();
        return whole.journeysTillEven();
    }

    /** PIECES of SHARES on a stretch: how many, the PLANS, their minutes. */
    public int pieces(int stretch, int what) {
        if (!isStretch(stretch) || !now.shared || !cut.cutUp(land, now.minutes, stretch)) {
            return OTHERS;
        }
        if (what == NONE) {
            return cut.many;
        }
        if (what < 0 || what / 2 >= cut.many) {
            return OTHERS;
        }
        return what % 2 == 0 ? cut.plan[what / 2] : cut.length[what / 2];
    }

    /** TOFFEES on a stretch: the PLAN, or the price of a SEAT. */
    public int toffees(int stretch, int what) {
        boolean asked = isStretch(stretch) && (what == NONE || isSeat(what));
        if (!asked || land.riders < land.seats) {
            return OTHERS;
        }
        market.settle(land, stretch);
        return what == NONE ? market.plan : market.price[what];
    }

    /** DOOR on a stretch: the chance that a RIDER has a SEAT, in lowest terms. */
    public long door(int stretch, int rider, int seat, int what) {
        boolean asked = isStretch(stretch) && isRider(rider) && isSeat(seat);
        if (!asked || what < 0 || what > 1) {
            return NONE;
        }
        entrance.findChance(land, stretch, rider, seat);
        return what == 0 ? entrance.above : entrance.below;
    }

    /** A rule CALLED: SPREAD, or the PLAN of a stretch. */
    public int called(int rule, int what) {
        boolean asked = rule >= 0 && rule < land.rules && what >= 0 && what <= land.stretches;
        if (!asked || land.riders == 0 || !goesByRule(rule)) {
            return NONE;
        }
        return what == 0 ? spreadOf(judge.total, 0, land.riders) : calledPlans[what - 1];
    }

    /** FAIREST: the rule with the least SPREAD. */
    public int fairest() {
        int best = NONE;
        int least = 0;
        for (int rule = 0; rule < land.rules && land.riders > 0; rule++) {
            if (goesByRule(rule)) {
                int spread = spreadOf(judge.total, 0, land.riders);
                if (best == NONE || spread < least) {
                    best = rule;
                    least = spread;
                }
            }
        }
        return best;
    }

    /** SEEN: whether it was taken down. */
    public boolean see(int rider, int seat, int stretch, boolean sat) {
        if (!isRider(rider) || !isSeat(seat) || !isStretch(stretch)) {
            return false;
        }
        return now.takeDown(rider, seat, stretch, sat);
    }

    /** FITS: how many, stops with a change in all or in none, the first one's PLANS. */
    public int fits(int what) {
        if (what < 0 || what >= 3 + land.stretches) {
            return NONE;
        }
        int many = countFitting();
        if (what == 0) {
            return many;
        }
        if (many == 0) {
            return NONE;
        }
        if (what < 3) {
            return stopsChanged(what == 1);
        }
        return land.planAt(Integer.numberOfTrailingZeros(fitting[what - 3]));
    }

    /** YEARS by a SEED: SPREAD, or how often somebody had no SEAT. */
    public int years(int seed, int journeys, int what) {
        boolean asked = seed >= 0 && seed <= SEEDS && journeys >= 1 && journeys <= YEARS;
        if (!asked || what < 0 || what > 1 || land.riders == 0) {
            return NONE;
        }
        entrance.drawYears(land, seed, journeys);
        return what == 0 ? spreadOf(entrance.total, 0, land.riders) : entrance.without;
    }

    /** A MARK is laid, or gone back to. */
    public boolean mark(int mark, boolean back) {
        if (mark < 0 || mark >= MARKS) {
            return false;
        }
        if (!back) {
            marks[mark].copy(now);
            marks[mark].laid = true;
            return true;
        }
        if (!marks[mark].laid) {
            return false;
        }
        now.copy(marks[mark]);
        undoCount = 0;
        return true;
    }

    /** How many there are of this and that. */
    public int count(int what) {
        switch (what) {
            case 0:
                return land.seats;
            case 1:
                return land.stretches;
            case 2:
                return land.riders;
            case 3:
                return land.rules;
            case 4:
                return now.seating.next;
            case 5:
                return now.seating.countSitting(land.riders);
            case 6:
                return told.lines;
            case 7:
                return now.shared ? 1 : 0;
            case 8:
                return now.seenCount;
            case 9:
                return land.fight;
            case 10:
                return undoCount;
            case 11:
                return tape.length;
            default:
                return NONE;
        }
    }

    private boolean isRider(int rider) {
        return rider >= 0 && rider < land.riders;
    }

    private boolean isSeat(int seat) {
        return seat >= 0 && seat < land.seats;
    }

    private boolean isStretch(int stretch) {
        return stretch >= 0 && stretch < land.stretches;
    }

    private void beginRoad() {
        land.listPlans(seats);
        whole.begin(land);
        now.begin(land);
        for (int i = 0; i < MARKS; i++) {
            marks[i].laid = false;
        }
        told.lines = 0;
        undoCount = 0;
    }

    private void remember() {
        undos[undoNext].copy(now.seating);
        undoNext = (undoNext + 1) % UNDOS;
        undoCount = Math.min(undoCount + 1, UNDOS);
    }

    private int judgeTold() {
        int first = NONE;
        judge.begin(land);
        for (int line = 0; line < told.lines; line++) {
            if (told.rider[line] != NONE) {
                judge.take(told.rider[line], told.seat[line]);
            } else if (judge.canGo(land)) {
                judge.go(land);
            } else if (first == NONE) {
                first = line;
            }
        }
        return first;
    }

    private boolean goesByRule(int rule) {
        judge.begin(land);
        for (int stretch = 0; stretch < land.stretches; stretch++) {
            judge.goBy(land, rule);
            if (!judge.canGo(land)) {
                return false;
            }
            calledPlans[stretch] = land.pack(judge.seat);
            judge.go(land);
        }
        return true;
    }

    // What is SEEN binds each stretch by itself, so the journeys are all choices out of one
    // set of PLANS for each stretch, and none need be walked through.
    private int countFitting() {
        int many = 1;
        for (int stretch = 0; stretch < land.stretches; stretch++) {
            int set = 0;
            for (int i = 0; i < land.planCount; i++) {
                if (land.unpack(land.plan[i], seats) && now.agrees(seats, stretch)) {
                    set |= 1 << i;
                }
            }
            fitting[stretch] = set;
            many *= Integer.bitCount(set);
        }
        return many;
    }

    private int stopsChanged(boolean inAll) {
        int stops = 0;
        for (int stop = 0; stop + 1 < land.stretches; stop++) {
            int here = fitting[stop];
            int there = fitting[stop + 1];
            boolean always = (here & there) == 0;
            boolean never = here == there && Integer.bitCount(here) == 1;
            if (inAll ? always : never) {
                stops |= 1 << stop;
            }
        }
        return stops;
    }

    private static int spreadOf(int[] totals, int from, int many) {
        int least = Integer.MAX_VALUE;
        int greatest = Integer.MIN_VALUE;
        for (int i = from; i < from + many && i < totals.length; i++) {
            least = Math.min(least, totals[i]);
            greatest = Math.max(greatest, totals[i]);
        }
        return least > greatest ? 0 : greatest - least;
    }

    /** The signs fed, and the token that stands next on them. */
    private static final class Tape {
        static final int END = 0;
        static final int NOTHING = 1;
        static final int WORD = 2;
        static final int NUMBER = 3;
        static final int SIGN = 4;

        private static final String TOKEN_SIGNS = "()<=+-*;";
        private static final int LETTERS = 8;
        private static final int DIGITS = 4;
        private static final int BASE = 27;

        private final char[] signs = new char[SIGNS];
        private int behind;
        int length;
        int kind;
        int place;
        int placeBefore;
        long value;

        void addBytesOf(long eight) {
            for (int shift = 56; shift >= 0; shift -= 8) {
                int sign = (int) (eight >>> shift) & 255;
                boolean good = sign == 10 || sign >= 32 && sign <= 126;
                if (good && length < SIGNS) {
                    signs[length] = (char) sign;
                    length++;
                }
            }
        }

        void clear() {
            length = 0;
        }

        void rewind() {
            behind = 0;
            step();
        }

        /** Goes to the next token; a WORD's value is its letters as digits, so that WORDS are compared as numbers. */
        void step() {
            placeBefore = place;
            int at = behind;
            while (at < length && (signs[at] == ' ' || signs[at] == 10)) {
                at++;
            }
            place = at;
            value = 0;
            kind = END;
            char first = at < length ? signs[at] : 0;
            if (first >= 'a' && first <= 'z') {
                for (; at < length && signs[at] >= 'a' && signs[at] <= 'z'; at++) {
                    value = value * BASE + (signs[at] - 'a' + 1);
                }
                kind = at - place <= LETTERS ? WORD : NOTHING;
            } else if (first >= '0' && first <= '9') {
                for (; at < length && signs[at] >= '0' && signs[at] <= '9'; at++) {
                    value = value * 10 + (signs[at] - '0');
                }
                kind = at - place <= DIGITS ? NUMBER : NOTHING;
            } else if (at < length) {
                value = first;
                kind = TOKEN_SIGNS.indexOf(first) >= 0 ? SIGN : NOTHING;
                at++;
            }
            behind = at;
        }

        boolean isSign(char sign) {
            return kind == SIGN && value == sign;
        }

        /** Which WORD of a list it is, each one of the list with a blank behind it. */
        int wordAmong(String list) {
            int index = 0;
            long word = 0;
            for (int i = 0; kind == WORD && i < list.length(); i++) {
                char sign = list.charAt(i);
                if (sign != ' ') {
                    word = word * BASE + (sign - 'a' + 1);
                } else if (word == value) {
                    return index;
                } else {
                    word = 0;
                    index++;
                }
            }
            return NONE;
        }
    }

    /** Reads the TAPE as a ROAD, a JOURNEY or SHARES, and tells the first FAULT. */
    private static final class Reader {
        private static final int CANNOT_STAND = 1;
        private static final int NO_RIDER = 2;
        private static final int TOLD_ALREADY = 3;
        private static final int BAD_NUMBER = 4;
        private static final int TOO_MANY = 5;

        private static final int PLACES = 16;
        private static final int WITHIN = 5;
        private static final int TESTS = 1;
        private static final int PARTS = 4;
        private static final String ROAD_LINES = "stretch rider apart never gap fight worth rule ";
        private static final String KINDS = "plain sick sleeper small ";
        private static final String NO_NAMES =
            "seats stretch has rider dash past apart never gap fight worth rule sit drive row plain sick sleeper small not and or ";
        private static final String WORTH_FACTS = "base time kind end tip ";
        private static final String RULE_FACTS = "seat stop who ";

        private final Tape tape;
        private Road land;
        private String facts = "";
        private int fault;
        private int number;
        private int rider;

        Reader(Tape tape) {
            this.tape = tape;
        }

        int readRoad(Road fresh) {
            begin(fresh);
            fresh.clear();
            boolean good = seatsLine();
            for (int line = 0; good && tape.kind != Tape.END && line < SIGNS; line++) {
                switch (tape.wordAmong(ROAD_LINES)) {
                    case 0:
                        good = stretchLine();
                        break;
                    case 1:
                        good = riderLine();
                        break;
                    case 2:
                        good = apartLine();
                        break;
                    case 3:
                        good = neverLine();
                        break;
                    case 4:
                        good = gapLine();
                        break;
                    case 5:
                        good = fightLine();
                        break;
                    case 6:
                        good = worthLine();
                        break;
                    case 7:
                        good = ruleLine();
                        break;
                    default:
                        good = wrong(CANNOT_STAND);
                }
            }
            tape.clear();
            return fault;
        }

        int readJourney(Road of, Told fresh) {
            begin(of);
            fresh.lines = 0;
            boolean good = true;
            for (int line = 0; good && tape.kind != Tape.END && line < SIGNS; line++) {
                good = journeyLine(fresh);
            }
            tape.clear();
            return fault;
        }

        int readShares(Road of, int[] minutes) {
            begin(of);
            boolean good = true;
            for (int row = 0; good && row < of.riders; row++) {
                good = rowLine(minutes, row);
            }
            if (good && tape.kind != Tape.END) {
                wrong(CANNOT_STAND);
            }
            tape.clear();
            return fault;
        }

        private void begin(Road of) {
            land = of;
            fault = 0;
            tape.rewind();
        }

        private boolean wrong(int kind) {
            fault = kind + PLACES * tape.place;
            return false;
        }

        private boolean takenWrong(int kind) {
            fault = kind + PLACES * tape.placeBefore;
            return false;
        }

        private boolean takeSign(char sign) {
            if (!tape.isSign(sign)) {
                return wrong(CANNOT_STAND);
            }
            tape.step();
            return true;
        }

        private boolean takeWord(String word) {
            if (tape.wordAmong(word) == NONE) {
                return wrong(CANNOT_STAND);
            }
            tape.step();
            return true;
        }

        private boolean takeNumber(int least, int greatest) {
            if (tape.kind != Tape.NUMBER) {
                return wrong(CANNOT_STAND);
            }
            if (tape.value < least || tape.value > greatest) {
                return wrong(BAD_NUMBER);
            }
            number = (int) tape.value;
            tape.step();
            return true;
        }

        private boolean isName() {
            return tape.kind == Tape.WORD && tape.wordAmong(NO_NAMES) == NONE;
        }

        private boolean takeNewName(int place) {
            if (!isName()) {
                return wrong(CANNOT_STAND);
            }
            if (land.tells(tape.value)) {
                return wrong(TOLD_ALREADY);
            }
            land.name[place] = tape.value;
            tape.step();
            return true;
        }

        private boolean takeRider() {
            if (!isName()) {
                return wrong(CANNOT_STAND);
            }
            rider = land.riderNamed(tape.value);
            if (rider == NONE) {
                return wrong(NO_RIDER);
            }
            tape.step();
            return true;
        }

        private boolean seatsLine() {
            if (!takeWord("seats ") || !takeNumber(2, SEATS)) {
                return false;
            }
            land.seats = number;
            return takeSign(';');
        }

        private boolean stretchLine() {
            int stretch = land.stretches;
            if (stretch >= STRETCHES) {
                return wrong(TOO_MANY);
            }
            tape.step();
            if (!takeNumber(1, 99)) {
                return false;
            }
            land.stretchFacts[stretch * Road.FACTS] = number;
            if (!takeWord("has ")) {
                return false;
            }
            for (int seat = 0; seat < land.seats; seat++) {
                if (!takeNumber(0, 9)) {
                    return false;
                }
                land.stretchFacts[stretch * Road.FACTS + 1 + seat] = number;
            }
            land.stretches++;
            return takeSign(';');
        }

        private boolean riderLine() {
            int fresh = land.riders;
            if (fresh >= land.seats) {
                return wrong(TOO_MANY);
            }
            tape.step();
            if (!takeNewName(fresh)) {
                return false;
            }
            land.kind[fresh] = tape.wordAmong(KINDS);
            if (!takeWord(KINDS) || !takeWord("dash ") || !takeNumber(1, 9)) {
                return false;
            }
            land.dash[fresh] = number;
            if (!takeWord("past ") || !takeNumber(0, 9999)) {
                return false;
            }
            land.past[fresh] = number;
            land.riders++;
            return takeSign(';');
        }

        private boolean apartLine() {
            tape.step();
            if (!takeRider()) {
                return false;
            }
            int first = rider;
            if (!takeRider()) {
                return false;
            }
            if (rider == first || (land.apart[first] >> rider & 1) != 0) {
                return takenWrong(TOLD_ALREADY);
            }
            land.apart[first] |= 1 << rider;
            land.apart[rider] |= 1 << first;
            return takeSign(';');
        }

        private boolean neverLine() {
            tape.step();
            if (!takeRider() || !takeNumber(0, land.seats - 1)) {
                return false;
            }
            if ((land.never[rider] >> number & 1) != 0) {
                return takenWrong(TOLD_ALREADY);
            }
            land.never[rider] |= 1 << number;
            return takeSign(';');
        }

        private boolean gapLine() {
            tape.step();
            if (!takeNumber(0, land.seats - 2)) {
                return false;
            }
            if ((land.gaps >> number & 1) != 0) {
                return takenWrong(TOLD_ALREADY);
            }
            land.gaps |= 1 << number;
            return takeSign(';');
        }

        private boolean fightLine() {
            if (land.fightTold) {
                return wrong(TOLD_ALREADY);
            }
            tape.step();
            if (!takeNumber(0, 99)) {
                return false;
            }
            land.fight = number;
            land.fightTold = true;
            return takeSign(';');
        }

        private boolean worthLine() {
            if (land.worthTold()) {
                return wrong(TOLD_ALREADY);
            }
            tape.step();
            return law(Road.WORTH_LAW, WORTH_FACTS);
        }

        private boolean ruleLine() {
            int rule = land.rules;
            if (rule >= RULES) {
                return wrong(TOO_MANY);
            }
            tape.step();
            if (!takeNewName(SEATS + rule) || !law(rule, RULE_FACTS)) {
                return false;
            }
            land.rules++;
            return true;
        }

        private boolean journeyLine(Told fresh) {
            int which = tape.wordAmong("sit drive ");
            if (which == NONE) {
                return wrong(CANNOT_STAND);
            }
            int line = fresh.lines;
            if (line >= LINES) {
                return wrong(TOO_MANY);
            }
            tape.step();
            fresh.rider[line] = NONE;
            fresh.seat[line] = NONE;
            if (which == 0) {
                if (!takeRider() || !takeNumber(0, land.seats - 1)) {
                    return false;
                }
                fresh.rider[line] = rider;
                fresh.seat[line] = number;
            }
            fresh.lines++;
            return takeSign(';');
        }

        private boolean rowLine(int[] minutes, int row) {
            if (!takeWord("row ")) {
                return false;
            }
            for (int seat = 0; seat < land.seats; seat++) {
                if (!takeNumber(0, 99)) {
                    return false;
                }
                minutes[row * SEATS + seat] = number;
            }
            return takeSign(';');
        }

        private boolean law(int index, String mayBe) {
            facts = mayBe;
            land.lawFrom[index] = land.law.length;
            if (!expression(0, 0)) {
                return false;
            }
            land.lawTo[index] = land.law.length;
            return takeSign(';');
        }

        /** An E, a TEST, a SUM, a PRODUCT (levels 0 to 3), within so many not and ( ). */
        private boolean expression(int within, int level) {
            if (level >= PARTS) {
                return part(within);
            }
            if (!expression(within, level + 1)) {
                return false;
            }
            int operator = operatorOf(level);
            for (int i = 0; operator != NONE && i < SIGNS; i++) {
                tape.step();
                if (!expression(within, level + 1)) {
                    return false;
                }
                land.law.put(operator);
                operator = level == TESTS ? NONE : operatorOf(level);
            }
            return true;
        }

        private int operatorOf(int level) {
            if (level == 0) {
                int word = tape.wordAmong("and or ");
                return word == NONE ? NONE : Law.AND + word;
            }
            if (level == TESTS) {
                return tape.isSign('<') ? Law.LESS : tape.isSign('=') ? Law.SAME : NONE;
            }
            if (level == 2) {
                return tape.isSign('+') ? Law.PLUS : tape.isSign('-') ? Law.MINUS : NONE;
            }
            return tape.isSign('*') ? Law.TIMES : NONE;
        }

        private boolean part(int within) {
            boolean inverts = tape.wordAmong("not ") == 0;
            boolean opens = tape.isSign('(');
            int fact = tape.wordAmong(facts);
            if (!inverts && !opens && fact == NONE && tape.kind != Tape.NUMBER) {
                return wrong(CANNOT_STAND);
            }
            if (within >= WITHIN) {
                return wrong(TOO_MANY);
            }
            if (opens) {
                tape.step();
                return expression(within + 1, 0) && takeSign(')');
            }
            int step = inverts ? Law.NOT : fact == NONE ? (int) tape.value : Law.FACT + fact;
            tape.step();
            if (inverts && !part(within + 1)) {
                return false;
            }
            land.law.put(step);
            return true;
        }
    }

    /** The Es of a ROAD one behind another, each as steps on a stack. */
    private static final class Law {
        static final int FACT = 10000;
        static final int NOT = 20000;
        static final int AND = 20001;
        static final int OR = 20002;
        static final int LESS = 20003;
        static final int SAME = 20004;
        static final int PLUS = 20005;
        static final int MINUS = 20006;
        static final int TIMES = 20007;

        // At most four operands wait at each of the five levels that an E can have.
        private static final int DEEPEST = 32;

        private final int[] steps = new int[SIGNS];
        private final int[] stack = new int[DEEPEST];
        final int[] facts = new int[5];
        int length;

        void put(int step) {
            if (length < SIGNS) {
                steps[length] = step;
                length++;
            }
        }

        int workOut(int from, int to) {
            int top = 0;
            for (int i = from; i >= 0 && i < to && i < length; i++) {
                int step = steps[i];
                if (step < NOT && top < DEEPEST) {
                    stack[top] = step < FACT ? step : facts[Math.min(step - FACT, facts.length - 1)];
                    top++;
                } else if (step == NOT && top >= 1) {
                    stack[top - 1] = stack[top - 1] == 0 ? 1 : 0;
                } else if (step > NOT && top >= 2) {
                    top--;
                    stack[top - 1] = join(step, stack[top - 1], stack[top]);
                }
            }
            return stack[0];
        }

        private static int join(int step, int left, int right) {
            switch (step) {
                case AND:
                    return left != 0 && right != 0 ? 1 : 0;
                case OR:
                    return left != 0 || right != 0 ? 1 : 0;
                case LESS:
                    return left < right ? 1 : 0;
                case SAME:
                    return left == right ? 1 : 0;
                case PLUS:
                    return left + right;
                case MINUS:
                    return left - right;
                default:
                    return left * right;
            }
        }
    }

    /** A ROAD as it was told, and what its PLANS are worth. */
    private static final class Road {
        static final int FACTS = 1 + SEATS;
        static final int WORTH_LAW = RULES;

        private static final int SICK = 1;
        private static final int SLEEPER = 2;
        private static final int TIPS = 3;
        private static final int GREATEST_WORTH = 999;

        int seats;
        int stretches;
        int riders;
        int rules;
        int gaps;
        int fight;
        boolean fightTold;
        int planCount;
        final int[] stretchFacts = new int[STRETCHES * FACTS];
        final long[] name = new long[SEATS + RULES];
        final int[] kind = new int[SEATS];
        final int[] dash = new int[SEATS];
        final int[] past = new int[SEATS];
        final int[] apart = new int[SEATS];
        final int[] never = new int[SEATS];
        final Law law = new Law();
        final int[] lawFrom = new int[RULES + 1];
        final int[] lawTo = new int[RULES + 1];
        final int[] plan = new int[PLANS];
        private final int[] worths = new int[STRETCHES * SEATS * SEATS * TIPS];

        void clear() {
            seats = 2;
            stretches = 0;
            riders = 0;
            rules = 0;
            gaps = 0;
            fight = 0;
            fightTold = false;
            planCount = 0;
            law.length = 0;
            Arrays.fill(apart, 0);
            Arrays.fill(never, 0);
            Arrays.fill(lawFrom, 0);
            Arrays.fill(lawTo, 0);
            Arrays.fill(worths, NONE);
        }

        boolean worthTold() {
            return lawTo[WORTH_LAW] > lawFrom[WORTH_LAW];
        }

        int riderNamed(long word) {
            for (int rider = 0; rider < riders; rider++) {
                if (name[rider] == word) {
                    return rider;
                }
            }
            return NONE;
        }

        boolean tells(long word) {
            for (int rule = 0; rule < rules; rule++) {
                if (name[SEATS + rule] == word) {
                    return true;
                }
            }
            return riderNamed(word) != NONE;
        }

        int minutesOf(int stretch) {
            return stretchFacts[stretch * FACTS];
        }

        int has(int stretch, int seat) {
            return stretchFacts[stretch * FACTS + 1 + seat];
        }

        boolean areBeside(int seat, int other) {
            int left = Math.min(seat, other);
            return left >= 0 && Math.max(seat, other) == left + 1 && (gaps >> left & 1) == 0;
        }

        boolean isEnd(int seat) {
            return seat == 0 || seat == seats - 1;
        }

        boolean maySit(int rider, int seat) {
            return (never[rider] >> seat & 1) == 0 && (kind[rider] != SICK || isEnd(seat));
        }

        /** Whether all sit, each on another SEAT, as the LAWS have it. */
        boolean allows(int[] seat) {
            for (int rider = 0; rider < riders; rider++) {
                if (seat[rider] < 0 || seat[rider] >= seats || !maySit(rider, seat[rider])) {
                    return false;
                }
                for (int other = 0; other < rider; other++) {
                    boolean mayNotTouch = (apart[rider] >> other & 1) != 0;
                    if (seat[other] == seat[rider] || mayNotTouch && areBeside(seat[other], seat[rider])) {
                        return false;
                    }
                }
            }
            return true;
        }

        /** The SEATS of a PLAN; false: it is none. */
        boolean unpack(int number, int[] seat) {
            if (number < 0 || number >= 1 << 2 * riders) {
                return false;
            }
            int taken = 0;
            for (int rider = 0; rider < riders; rider++) {
                seat[rider] = number >> 2 * (riders - 1 - rider) & 3;
                if (seat[rider] >= seats || (taken >> seat[rider] & 1) != 0) {
                    return false;
                }
                taken |= 1 << seat[rider];
            }
            return true;
        }

        int pack(int[] seat) {
            int number = 0;
            for (int rider = 0; rider < riders; rider++) {
                number = number * 4 + seat[rider];
            }
            return number;
        }

        void listPlans(int[] seat) {
            planCount = 0;
            for (int number = 0; number < 1 << 2 * riders; number++) {
                if (unpack(number, seat) && allows(seat) && planCount < PLANS) {
                    plan[planCount] = number;
                    planCount++;
                }
            }
        }

        int planAt(int index) {
            return index >= 0 && index < planCount ? plan[index] : NONE;
        }

        /** Whether there is a journey as a whole: one without stretches needs no PLAN. */
        boolean canBeDriven() {
            return stretches == 0 || planCount > 0;
        }

        int worthOf(int[] seat, int rider, int stretch) {
            int tip = 0;
            for (int other = 0; other < riders; other++) {
                if (kind[other] == SLEEPER && areBeside(seat[other], seat[rider])) {
                    tip++;
                }
            }
            return worthAt(stretch, rider, seat[rider], tip);
        }

        /** The WORTH of a SEAT with so many sleepers beside it, worked out once. */
        int worthAt(int stretch, int rider, int seat, int tip) {
            int place = ((stretch * SEATS + rider) * SEATS + seat) * TIPS + tip;
            if (place < 0 || place >= worths.length) {
                return 0;
            }
            if (worths[place] == NONE) {
                law.facts[0] = has(stretch, seat);
                law.facts[1] = minutesOf(stretch);
                law.facts[2] = kind[rider];
                law.facts[3] = isEnd(seat) ? 1 : 0;
                law.facts[4] = tip;
                int worth = law.facts[0] * law.facts[1];
                if (worthTold()) {
                    worth = law.workOut(lawFrom[WORTH_LAW], lawTo[WORTH_LAW]);
                }
                worths[place] = Math.max(0, Math.min(worth, GREATEST_WORTH));
            }
            return worths[place];
        }

        int seatByRule(int rule, int seat, int stop, int rider) {
            law.facts[0] = seat;
            law.facts[1] = stop;
            law.facts[2] = rider;
            int goal = law.workOut(lawFrom[rule], lawTo[rule]);
            return seats > 0 ? Math.floorMod(goal, seats) : 0;
        }

        /** The free SEAT that has most of those where the RIDER may sit. */
        int seatLeft(int stretch, int rider, int taken) {
            int best = NONE;
            for (int seat = 0; seat < seats; seat++) {
                boolean free = (taken >> seat & 1) == 0 && maySit(rider, seat);
                if (free && (best == NONE || has(stretch, seat) > has(stretch, best))) {
                    best = seat;
                }
            }
            return best;
        }
    }

    /** Who sits where, which stretch is to come, and the totals. */
    private static final class Seating {
        final int[] seat = new int[SEATS];
        final int[] ahead = new int[SEATS];
        final int[] total = new int[SEATS];
        int next;

        void begin(Road land) {
            Arrays.fill(seat, NONE);
            Arrays.fill(ahead, NONE);
            System.arraycopy(land.past, 0, total, 0, SEATS);
            next = 0;
        }

        void copy(Seating other) {
            System.arraycopy(other.seat, 0, seat, 0, SEATS);
            System.arraycopy(other.ahead, 0, ahead, 0, SEATS);
            System.arraycopy(other.total, 0, total, 0, SEATS);
            next = other.next;
        }

        int countSitting(int riders) {
            int many = 0;
            for (int rider = 0; rider < riders; rider++) {
                if (seat[rider] != NONE) {
                    many++;
                }
            }
            return many;
        }

        /** A RIDER takes a SEAT; who sat there gets his, and is told. */
        int take(int rider, int goal) {
            int who = NONE;
            for (int other = 0; other < SEATS; other++) {
                if (other != rider && seat[other] == goal) {
                    who = other;
                    seat[other] = seat[rider];
                }
            }
            seat[rider] = goal;
            return who;
        }

        void goBy(Road land, int rule) {
            for (int rider = 0; rider < land.riders; rider++) {
                int from = next == 0 ? rider : seat[rider];
                seat[rider] = land.seatByRule(rule, from, next, rider);
            }
        }

        boolean canGo(Road land) {
            return next < land.stretches && land.allows(seat);
        }

        void go(Road land) {
            for (int rider = 0; rider < land.riders; rider++) {
                total[rider] += land.worthOf(seat, rider, next);
                if (next > 0 && seat[rider] != ahead[rider]) {
                    total[rider] -= land.fight;
                }
            }
            System.arraycopy(seat, 0, ahead, 0, SEATS);
            next++;
        }
    }

    /** What a MARK holds; the present is one of these, too. */
    private static final class Moment {
        private static final int ROW = 4;

        final Seating seating = new Seating();
        final int[] minutes = new int[SEATS * SEATS];
        private final int[] seen = new int[SEEN * ROW];
        boolean shared;
        boolean laid;
        int seenCount;

        void begin(Road land) {
            seating.begin(land);
            shared = false;
            seenCount = 0;
        }

        void copy(Moment other) {
            seating.copy(other.seating);
            System.arraycopy(other.minutes, 0, minutes, 0, minutes.length);
            System.arraycopy(other.seen, 0, seen, 0, seen.length);
            shared = other.shared;
            seenCount = other.seenCount;
        }

        boolean takeDown(int rider, int seat, int stretch, boolean sat) {
            if (seenCount >= SEEN) {
                return false;
            }
            int row = seenCount * ROW;
            seen[row] = rider;
            seen[row + 1] = seat;
            seen[row + 2] = stretch;
            seen[row + 3] = sat ? 1 : 0;
            seenCount++;
            return true;
        }

        boolean agrees(int[] seat, int stretch) {
            for (int i = 0; i < seenCount && i < SEEN; i++) {
                int row = i * ROW;
                boolean sits = seat[seen[row]] == seen[row + 1];
                if (seen[row + 2] == stretch && sits != (seen[row + 3] == 1)) {
                    return false;
                }
            }
            return true;
        }
    }

    /** The lines of a JOURNEY: a RIDER and a SEAT, or NONE for a drive. */
    private static final class Told {
        final int[] rider = new int[LINES];
        final int[] seat = new int[LINES];
        int lines;
    }

    /**
     * JOURNEYS as a whole. The search for the evenest one goes through the PLANS in order and
     * leaves out what can't be better: for every two RIDERS it is known beforehand how far the
     * first can at least come ahead of the second on the stretches left.
     */
    private static final class Journeys {
        // One beside the RIDERS who never gets anything: what somebody can get is told against him.
        private static final int NOBODY = SEATS;
        private static final int MOST_TIMES = 20;
        private static final int ROW = 2 + STRETCHES;

        private Road land;
        private boolean ready;
        private final int[] seats = new int[SEATS];
        private final int[] gain = new int[STRETCHES * PLANS * SEATS];
        private final int[] least = new int[(SEATS + 1) * SEATS * STRETCHES * PLANS];
        private final int[] sumLeft = new int[STRETCHES * PLANS];
        private final int[] total = new int[(STRETCHES + 1) * SEATS];
        private final int[] chosen = new int[STRETCHES];
        private final int[] best = new int[STRETCHES];
        private final int[] bestTotal = new int[SEATS];
        private final int[] answer = new int[(MOVES + 1) * ROW];
        private int answered;
        private int limit;
        private int knownAfter;
        private int bestSpread;
        private int bestMoves;
        private int bestLeast;

        void begin(Road fresh) {
            land = fresh;
            ready = false;
            answered = 0;
            knownAfter = 0;
            bestLeast = Integer.MIN_VALUE;
        }

        /** Of the EVENEST with so many MOVES at most its SPREAD, MOVES, PLANS; searched for once. */
        int evenestOf(int moves, int what) {
            if (moves < 0 || moves > MOVES || what < 0 || what >= ROW) {
                return NONE;
            }
            if ((answered >> moves & 1) == 0) {
                answered |= 1 << moves;
                System.arraycopy(land.past, 0, total, 0, SEATS);
                searchEvenest(moves);
                writeAnswer(moves * ROW);
            }
            return answer[moves * ROW + what];
        }

        int greatestLeast() {
            if (bestLeast == Integer.MIN_VALUE) {
                System.arraycopy(land.past, 0, total, 0, SEATS);
                if (land.stretches == 0) {
                    bestLeast = leastTotal();
                } else {
                    leastFrom(0);
                }
            }
            return bestLeast;
        }

        int journeysTillEven() {
            if (knownAfter == 0) {
                knownAfter = countTillEven();
            }
            return knownAfter;
        }

        /** MOST, by what can be had at best behind each PLAN of each stretch. */
        int greatestSum(int what) {
            fillSumLeft();
            int sum = 0;
            for (int rider = 0; rider < land.riders; rider++) {
                sum += land.past[rider];
            }
            int before = NONE;
            for (int stretch = 0; stretch < land.stretches; stretch++) {
                int next = firstOfMost(stretch, before);
                if (stretch == what) {
                    return land.planAt(next);
                }
                sum += sumOf(stretch, before, next);
                before = next;
            }
            return sum;
        }

        /** What the others need; to be called before them. */
        void prepare() {
            if (ready) {
                return;
            }
            ready = true;
            for (int i = 0; i < land.planCount; i++) {
                if (land.unpack(land.plan[i], seats)) {
                    fillGains(i);
                }
            }
            for (int stretch = land.stretches - 1; stretch >= 0; stretch--) {
                for (int i = 0; i < land.planCount; i++) {
                    fillLeast(stretch, i);
                }
            }
        }

        private void fillGains(int index) {
            for (int stretch = 0; stretch < land.stretches; stretch++) {
                for (int rider = 0; rider < land.riders; rider++) {
                    gain[(stretch * PLANS + index) * SEATS + rider] = land.worthOf(seats, rider, stretch);
                }
            }
        }

        private void fillLeast(int stretch, int index) {
            for (int one = 0; one <= NOBODY; one++) {
                for (int other = 0; other < land.riders; other++) {
                    boolean there = one < land.riders || one == NOBODY;
                    if (there && one != other) {
                        least[leastPlace(stretch, index, one, other)] = leastAhead(stretch, index, one, other);
                    }
                }
            }
        }

        private int leastAhead(int stretch, int index, int one, int other) {
            if (stretch + 1 >= land.stretches) {
                return 0;
            }
            int found = Integer.MAX_VALUE;
            for (int next = 0; next < land.planCount; next++) {
                int ahead = gainOf(stretch + 1, index, next, one) - gainOf(stretch + 1, index, next, other);
                found = Math.min(found, ahead + least[leastPlace(stretch + 1, next, one, other)]);
            }
            return found;
        }

        private static int leastPlace(int stretch, int index, int one, int other) {
            return ((one * SEATS + other) * STRETCHES + stretch) * PLANS + index;
        }

        /** What a PLAN brings a RIDER behind another one (NONE: at first), less his fight. */
        private int gainOf(int stretch, int before, int index, int rider) {
            if (rider == NOBODY) {
                return 0;
            }
            int worth = gain[(stretch * PLANS + index) * SEATS + rider];
            if (before == NONE) {
                return worth;
            }
            int changed = (land.plan[before] ^ land.plan[index]) >> 2 * (land.riders - 1 - rider) & 3;
            return changed == 0 ? worth : worth - land.fight;
        }

        private int movesOf(int before, int index) {
            if (before == NONE) {
                return 0;
            }
            int changed = land.plan[before] ^ land.plan[index];
            return Integer.bitCount((changed | changed >> 1) & 0x55);
        }

        private int before(int stretch) {
            return stretch > 0 ? chosen[stretch - 1] : NONE;
        }

        private void choose(int stretch, int index) {
            int before = before(stretch);
            chosen[stretch] = index;
            for (int rider = 0; rider < land.riders; rider++) {
                int place = stretch * SEATS + rider;
                total[place + SEATS] = total[place] + gainOf(stretch, before, index, rider);
            }
        }

        private void searchEvenest(int moves) {
            limit = moves;
            bestMoves = 0;
            bestSpread = Integer.MAX_VALUE;
            if (land.stretches == 0) {
                bestSpread = spreadOf(total, 0, land.riders);
                System.arraycopy(total, 0, bestTotal, 0, SEATS);
            } else {
                evenestFrom(0, 0);
            }
        }

        private void writeAnswer(int row) {
            boolean found = bestSpread != Integer.MAX_VALUE;
            answer[row] = found ? bestSpread : NONE;
            answer[row + 1] = found ? bestMoves : NONE;
            for (int stretch = 0; stretch < STRETCHES; stretch++) {
                boolean there = found && stretch < land.stretches;
                answer[row + 2 + stretch] = there ? land.planAt(best[stretch]) : NONE;
            }
        }

        private void evenestFrom(int stretch, int moves) {
            int before = before(stretch);
            boolean last = stretch + 1 >= land.stretches;
            for (int index = 0; index < land.planCount; index++) {
                int moved = moves + movesOf(before, index);
                if (moved <= limit && last) {
                    keepIfEvener(stretch, index, moved);
                } else if (moved <= limit) {
                    choose(stretch, index);
                    if (isEvener(leastSpread(stretch, index), moved)) {
                        evenestFrom(stretch + 1, moved);
                    }
                }
            }
        }

        private boolean isEvener(int spread, int moves) {
            return spread < bestSpread || spread == bestSpread && moves < bestMoves;
        }

        private void keepIfEvener(int stretch, int index, int moves) {
            if (isEvener(spreadWith(stretch, index), moves)) {
                choose(stretch, index);
                keep(spreadOf(total, (stretch + 1) * SEATS, land.riders), moves);
            }
        }

        /** The SPREAD behind the last stretch, or so much of it that it is no longer the least. */
        private int spreadWith(int stretch, int index) {
            int before = before(stretch);
            int low = Integer.MAX_VALUE;
            int high = Integer.MIN_VALUE;
            for (int rider = 0; rider < land.riders; rider++) {
                int sum = total[stretch * SEATS + rider] + gainOf(stretch, before, index, rider);
                low = Math.min(low, sum);
                high = Math.max(high, sum);
                if (high - low > bestSpread) {
                    return high - low;
                }
            }
            return high - low;
        }

        private void keep(int spread, int moves) {
            bestSpread = spread;
            bestMoves = moves;
            System.arraycopy(chosen, 0, best, 0, STRETCHES);
            System.arraycopy(total, land.stretches * SEATS, bestTotal, 0, SEATS);
        }

        /** The SPREAD at last is no less than this. */
        private int leastSpread(int stretch, int index) {
            int from = (stretch + 1) * SEATS;
            int found = 0;
            for (int one = 0; one < land.riders; one++) {
                for (int other = 0; other < land.riders; other++) {
                    if (one != other) {
                        int ahead = total[from + one] - total[from + other];
                        found = Math.max(found, ahead + least[leastPlace(stretch, index, one, other)]);
                    }
                }
            }
            return found;
        }

        private int leastTotal() {
            int found = Integer.MAX_VALUE;
            for (int rider = 0; rider < land.riders; rider++) {
                found = Math.min(found, total[rider]);
            }
            return found;
        }

        private void leastFrom(int stretch) {
            for (int index = 0; index < land.planCount; index++) {
                choose(stretch, index);
                int could = leastThatCouldBe(stretch, index);
                if (could > bestLeast && stretch + 1 < land.stretches) {
                    leastFrom(stretch + 1);
                } else if (could > bestLeast) {
                    bestLeast = could;
                }
            }
        }

        /** The least TOTAL at last is no more than this; behind the last stretch it is just this. */
        private int leastThatCouldBe(int stretch, int index) {
            int from = (stretch + 1) * SEATS;
            int found = Integer.MAX_VALUE;
            for (int rider = 0; rider < land.riders; rider++) {
                found = Math.min(found, total[from + rider] - least[leastPlace(stretch, index, NOBODY, rider)]);
            }
            return found;
        }

        private int countTillEven() {
            System.arraycopy(land.past, 0, total, 0, SEATS);
            for (int time = 1; time <= MOST_TIMES; time++) {
                searchEvenest(MOVES);
                if (bestSpread == 0) {
                    return time;
                }
                System.arraycopy(bestTotal, 0, total, 0, SEATS);
            }
            return NONE;
        }

        private int sumOf(int stretch, int before, int index) {
            int sum = 0;
            for (int rider = 0; rider < land.riders; rider++) {
                sum += gainOf(stretch, before, index, rider);
            }
            return sum;
        }

        private void fillSumLeft() {
            for (int stretch = land.stretches - 1; stretch >= 0; stretch--) {
                for (int index = 0; index < land.planCount; index++) {
                    int left = 0;
                    if (stretch + 1 < land.stretches) {
                        int next = firstOfMost(stretch + 1, index);
                        left = sumOf(stretch + 1, index, next) + sumLeft[(stretch + 1) * PLANS + next];
                    }
                    sumLeft[stretch * PLANS + index] = left;
                }
            }
        }

        /** The first PLAN by which most can be had from a stretch on. */
        private int firstOfMost(int stretch, int before) {
            int first = 0;
            int most = Integer.MIN_VALUE;
            for (int index = 0; index < land.planCount; index++) {
                int sum = sumOf(stretch, before, index) + sumLeft[stretch * PLANS + index];
                if (sum > most) {
                    most = sum;
                    first = index;
                }
            }
            return first;
        }
    }

    /** SHARES cut into PLANS of so many minutes. */
    private static final class Pieces {
        // Each piece uses up at least one RIDER's minutes on one SEAT.
        private static final int MOST_PIECES = SEATS * SEATS;

        private final int[] left = new int[SEATS * SEATS];
        private final int[] seats = new int[SEATS];
        final int[] plan = new int[MOST_PIECES];
        final int[] length = new int[MOST_PIECES];
        int many;

        boolean cutUp(Road land, int[] minutes, int stretch) {
            if (land.riders != land.seats || !addsUp(land, minutes, land.minutesOf(stretch))) {
                return false;
            }
            System.arraycopy(minutes, 0, left, 0, left.length);
            many = 0;
            while (many < MOST_PIECES && cutOne(land)) {
                many++;
            }
            return true;
        }

        private static boolean addsUp(Road land, int[] minutes, int due) {
            for (int i = 0; i < land.seats; i++) {
                int row = 0;
                int column = 0;
                for (int j = 0; j < land.seats; j++) {
                    row += minutes[i * SEATS + j];
                    column += minutes[j * SEATS + i];
                }
                if (row != due || column != due) {
                    return false;
                }
            }
            return true;
        }

        private boolean cutOne(Road land) {
            for (int number = 0; number < 1 << 2 * land.riders; number++) {
                int least = land.unpack(number, seats) ? leastLeft(land.riders) : 0;
                if (least > 0) {
                    for (int rider = 0; rider < land.riders; rider++) {
                        left[rider * SEATS + seats[rider]] -= least;
                    }
                    plan[many] = number;
                    length[many] = least;
                    return true;
                }
            }
            return false;
        }

        private int leastLeft(int riders) {
            int least = Integer.MAX_VALUE;
            for (int rider = 0; rider < riders; rider++) {
                least = Math.min(least, left[rider * SEATS + seats[rider]]);
            }
            return least;
        }
    }

    /** Prices of SEATS by which nobody would rather have another one. */
    private static final class Toffees {
        private final int[] seats = new int[SEATS];
        private final int[] best = new int[SEATS];
        final int[] price = new int[SEATS];
        int plan;

        void settle(Road land, int stretch) {
            findPlan(land, stretch);
            Arrays.fill(price, 0);
            // A price is pushed up along at most as many SEATS as there are.
            for (int round = 0; round < land.seats; round++) {
                pushUp(land, stretch);
            }
        }

        private void findPlan(Road land, int stretch) {
            int most = NONE;
            for (int number = 0; number < 1 << 2 * land.riders; number++) {
                int sum = NONE;
                if (land.unpack(number, seats)) {
                    sum = 0;
                    for (int rider = 0; rider < land.riders; rider++) {
                        sum += land.worthAt(stretch, rider, seats[rider], 0);
                    }
                }
                if (sum > most) {
                    most = sum;
                    plan = number;
                    System.arraycopy(seats, 0, best, 0, SEATS);
                }
            }
        }

        private void pushUp(Road land, int stretch) {
            for (int rider = 0; rider < land.riders; rider++) {
                int own = best[rider];
                int gain = land.worthAt(stretch, rider, own, 0) - price[own];
                for (int seat = 0; seat < land.seats; seat++) {
                    price[seat] = Math.max(price[seat], land.worthAt(stretch, rider, seat, 0) - gain);
                }
            }
        }
    }

    /** RIDERS come to the door: the chance of a SEAT, and YEARS drawn. */
    private static final class Door {
        private static final long FACTOR = 1103515245L;
        private static final long ADDEND = 12345L;
        private static final long MODULUS = 2147483648L;
        private static final long CUT = 65536L;
        private static final int STEPS = 200;

        private Road land;
        private int stretch;
        private int rider;
        private int wanted;
        private long drawn;
        private final int[] seats = new int[SEATS];
        final int[] total = new int[SEATS];
        int without;
        long above;
        long below;

        void findChance(Road on, int onStretch, int who, int seat) {
            land = on;
            stretch = onStretch;
            rider = who;
            wanted = seat;
            above = 0;
            below = 1;
            come(0, 0, 1, 1);
        }

        // Each call has one more of the RIDERS in the set of those who have come.
        private void come(int came, int taken, long up, long down) {
            int dashes = dashesLeft(came);
            for (int who = 0; who < land.riders; who++) {
                if ((came >> who & 1) == 0) {
                    int seat = land.seatLeft(stretch, who, taken);
                    int nowTaken = seat == NONE ? taken : taken | 1 << seat;
                    if (who != rider) {
                        come(came | 1 << who, nowTaken, up * land.dash[who], down * dashes);
                    } else if (seat == wanted) {
                        add(up * land.dash[who], down * dashes);
                    }
                }
            }
        }

        private int dashesLeft(int came) {
            int dashes = 0;
            for (int who = 0; who < land.riders; who++) {
                if ((came >> who & 1) == 0) {
                    dashes += land.dash[who];
                }
            }
            return dashes;
        }

        private void add(long up, long down) {
            long common = divisor(below, down);
            long sumUp = above * (down / common) + up * (below / common);
            long sumDown = below / common * down;
            long shared = divisor(sumUp, sumDown);
            above = sumUp / shared;
            below = sumDown / shared;
        }

        private static long divisor(long one, long other) {
            long a = one;
            long b = other;
            for (int i = 0; i < STEPS && b != 0; i++) {
                long rest = a % b;
                a = b;
                b = rest;
            }
            return a > 0 ? a : 1;
        }

        void drawYears(Road on, int seed, int journeys) {
            land = on;
            drawn = seed;
            without = 0;
            System.arraycopy(land.past, 0, total, 0, SEATS);
            for (int journey = 0; journey < journeys; journey++) {
                for (int at = 0; at < land.stretches; at++) {
                    drawStretch(at);
                }
            }
        }

        private void drawStretch(int at) {
            int came = 0;
            int taken = 0;
            for (int i = 0; i < land.riders; i++) {
                int who = drawOne(came);
                int seat = land.seatLeft(at, who, taken);
                seats[who] = seat;
                came |= 1 << who;
                taken = seat == NONE ? taken : taken | 1 << seat;
            }
            for (int who = 0; who < land.riders; who++) {
                if (seats[who] == NONE) {
                    without++;
                } else {
                    total[who] += land.worthOf(seats, who, at);
                }
            }
        }

        private int drawOne(int came) {
            int dashes = dashesLeft(came);
            drawn = (drawn * FACTOR + ADDEND) % MODULUS;
            long draw = dashes > 0 ? drawn / CUT % dashes : 0;
            int last = 0;
            for (int who = 0; who < land.riders; who++) {
                if ((came >> who & 1) == 0) {
                    last = who;
                    draw -= land.dash[who];
                    if (draw < 0) {
                        return who;
                    }
                }
            }
            return last;
        }
    }
}
