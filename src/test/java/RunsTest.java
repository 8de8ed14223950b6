import java.util.ArrayList;
import java.util.Arrays;
import java.util.List;
import java.util.Random;

/**
 * Runs as long as an object is used (512 calls): roads, journeys, shares, what is done by hand, undone, seen and
 * marked, and questions about all of it, in any order on one object; each answer against the Model's.
 */
public final class RunsTest {
    private static final int RUNS = 600;
    private static final int CALLS = 512;
    private static final int MOST_JOURNEYS = 2000;
    private static final String[] BAD = {"?", "rider", "sit a 0; sit", "row 100", "drive; drive", "seats 2; seats 3", "Seats 2;"};

    private final Random random;
    private final MiddleSeat x = new MiddleSeat();
    private final String run;
    private int calls = 0;
    private Model m;
    private List<int[][]> journeys;
    private int[][] gains;
    private Hand hand;
    private List<Hand> before;
    private List<int[]> told;
    private int[][] shares;
    private List<int[]> seen;
    private final Held[] marks = new Held[4];

    /** What a MARK holds. */
    private static final class Held {
        Hand hand;
        int[][] shares;
        List<int[]> seen;
    }

    private RunsTest(int run) {
        this.random = new Random(run);
        this.run = "run " + run + ", ";
    }

    public static void main(String[] args) {
        for (int run = 0; run < RUNS; run++) {
            RunsTest test = new RunsTest(run);
            test.newRoad();
            while (test.calls < CALLS - 60) {
                test.goOn();
            }
        }
        Due.end();
    }

    private void due(String what, long got, long want) {
        calls++;
        Due.due(got == want ? what : run + "call " + calls + ", " + what + " on " + m.text, got, want);
    }

    private void due(String what, boolean got, boolean want) {
        due(what, got ? 1 : 0, want ? 1 : 0);
    }

    private void feed(String text) {
        calls += (text.length() + 23) / 24 + 1;
        Due.feed(x, text);
    }

    private void goOn() {
        switch (random.nextInt(12)) {
            case 0: tapes(); break;
            case 1: see(); break;
            case 2: mark(); break;
            case 3: undo(); break;
            case 4: ask(); break;
            case 5: askOfJourneys(); break;
            case 6: askOfTheDoor(); break;
            case 7: drive(); break;
            case 8: sitLawfully(); break;
            default: sit(); break;
        }
    }

    private void tapes() {
        int how = random.nextInt(6);
        if (how == 0) {
            newRoad();
        } else if (how < 3) {
            tell();
        } else if (how < 5) {
            share();
        } else {
            misread();
        }
    }

    /** A text that is wrong as a ROAD, as a JOURNEY and as SHARES: all stays. */
    private void misread() {
        String text = BAD[random.nextInt(BAD.length)];
        int how = random.nextInt(3);
        feed(text);
        int fault = how == 0 ? x.road() : how == 1 ? x.journey() : x.shares();
        due("a fault of " + text, fault > 0, true);
        due("count(11)", x.count(11), 0);
    }

    private void newRoad() {
        Model fresh;
        do {
            int seats = 2 + random.nextInt(3);
            fresh = new Model(random, seats, random.nextInt(4), random.nextInt(3) == 0 ? random.nextInt(seats + 1) : seats);
        } while (fresh.text.length() > 1000);
        m = fresh;
        feed(m.text.toString());
        due("road()", x.road(), 0);
        boolean few = Math.pow(m.lawfulPlans.size(), m.stretches) <= MOST_JOURNEYS;
        journeys = few ? m.journeys() : null;
        gains = few ? m.gains(journeys) : null;
        hand = new Hand(m.past);
        before = new ArrayList<>();
        told = new ArrayList<>();
        shares = null;
        seen = new ArrayList<>();
        Arrays.fill(marks, null);
    }

    private void tell() {
        List<int[]> lines = new ArrayList<>();
        StringBuilder text = new StringBuilder();
        for (int i = random.nextInt(21); i > 0; i--) {
            if (m.riders > 0 && random.nextInt(4) > 0) {
                int[] line = {random.nextInt(m.riders), random.nextInt(m.seats)};
                text.append("sit ").append((char) ('a' + line[0])).append(' ').append(line[1]).append(" ;");
                lines.add(line);
            } else {
                text.append("drive ;");
                lines.add(null);
            }
        }
        feed(text.toString());
        due("journey()", x.journey(), 0);
        told = lines;
    }

    private void share() {
        int[][] rows = new int[4][4];
        List<int[]> plans = m.allPlans();
        for (int left = m.stretches == 0 ? 9 : m.minutes[random.nextInt(m.stretches)]; left > 0;) {
            int some = Math.min(left, 1 + random.nextInt(40));
            int[] plan = plans.get(random.nextInt(plans.size()));
            for (int r = 0; r < m.riders; r++) {
                rows[r][plan[r]] += some;
            }
            left -= some;
        }
        StringBuilder text = new StringBuilder();
        for (int r = 0; r < m.riders; r++) {
            text.append(" row");
            for (int seat = 0; seat < m.seats; seat++) {
                text.append(' ').append(rows[r][seat]);
            }
            text.append(';');
        }
        feed(text.toString());
        due("shares()", x.shares(), 0);
        shares = rows;
    }

    private void see() {
        int r = random.nextInt(5) - 1;
        int seat = random.nextInt(5) - 1;
        int s = random.nextInt(4) - 1;
        boolean sat = random.nextInt(3) == 0;
        boolean there = r >= 0 && r < m.riders && seat >= 0 && seat < m.seats && s >= 0 && s < m.stretches;
        if (there && seen.size() > 3 && random.nextInt(3) > 0) {
            return;
        }
        boolean can = there && seen.size() < 10;
        due("see()", x.see(r, seat, s, sat), can);
        if (can) {
            seen.add(new int[] {r, seat, s, sat ? 1 : 0});
        }
    }

    private void mark() {
        int mark = random.nextInt(6) - 1;
        boolean back = random.nextInt(3) == 0;
        boolean can = mark >= 0 && mark < 4 && (!back || marks[mark] != null);
        due("mark(" + mark + ", " + back + ")", x.mark(mark, back), can);
        if (can && back) {
            hand = marks[mark].hand.copy();
            shares = marks[mark].shares;
            seen = new ArrayList<>(marks[mark].seen);
            before.clear();
        } else if (can) {
            marks[mark] = new Held();
            marks[mark].hand = hand.copy();
            marks[mark].shares = shares;
            marks[mark].seen = new ArrayList<>(seen);
        }
    }

    private void undo() {
        due("undo()", x.undo(), !before.isEmpty());
        hand = before.isEmpty() ? hand : before.remove(before.size() - 1);
    }

    private void remember(Hand old) {
        before.add(old);
        if (before.size() > 16) {
            before.remove(0);
        }
    }

    private void sit() {
        sitAt(random.nextInt(5) - 1, random.nextInt(5) - 1);
    }

    private void sitAt(int r, int seat) {
        boolean can = r >= 0 && r < m.riders && seat >= 0 && seat < m.seats && hand.seat[r] != seat;
        if (can) {
            remember(hand.copy());
        }
        due("sit(" + r + ", " + seat + ")", x.sit(r, seat), can ? hand.sit(r, seat) : -2);
    }

    private void sitLawfully() {
        if (!m.lawfulPlans.isEmpty()) {
            int[] plan = m.lawfulPlans.get(random.nextInt(m.lawfulPlans.size()));
            for (int r = 0; r < m.riders; r++) {
                sitAt(r, plan[r]);
            }
        }
        drive();
    }

    private void drive() {
        Hand old = hand.copy();
        boolean can = hand.drive(m);
        if (can) {
            remember(old);
        }
        due("drive()", x.drive(), can ? hand.next : -1);
    }

    private void ask() {
        long sitting = Arrays.stream(hand.seat).filter(seat -> seat >= 0).count();
        long[] counts = {m.seats, m.stretches, m.riders, m.rules.size(), hand.next, sitting, told.size(), shares == null ? 0 : 1,
            seen.size(), m.fight, before.size(), 0, -1};
        int what = random.nextInt(counts.length);
        due("count(" + what + ")", x.count(what), counts[what]);
        int rider = random.nextInt(5) - 1;
        if (rider < 0 || rider >= m.riders) {
            due("rider(" + rider + ", 0)", Due.rider(x, rider, 0), Due.THREW);
        } else {
            int[] facts = {m.kind[rider], m.dash[rider], m.past[rider], hand.seat[rider], hand.total[rider], -1};
            int fact = random.nextInt(facts.length);
            due("rider(" + rider + ", " + fact + ")", Due.rider(x, rider, fact), facts[fact]);
            due("rider(" + rider + ", 4)", Due.rider(x, rider, 4), hand.total[rider]);
        }
        due("plans()", x.plans(), m.lawfulPlans.size());
        judged();
        pieces();
    }

    private void judged() {
        Hand judge = new Hand(m.past);
        int first = -1;
        for (int line = 0; line < told.size(); line++) {
            if (told.get(line) != null) {
                judge.sit(told.get(line)[0], told.get(line)[1]);
            } else if (!judge.drive(m) && first == -1) {
                first = line;
            }
        }
        due("judged(-1)", x.judged(-1), first);
        int rider = random.nextInt(5);
        due("judged(" + rider + ")", x.judged(rider), rider < m.riders ? judge.total[rider] : -99999);
    }

    private void pieces() {
        if (m.stretches == 0) {
            due("pieces(0, -1)", x.pieces(0, -1), -2);
            return;
        }
        int s = random.nextInt(m.stretches);
        List<Integer> pieces = shares == null || m.riders < m.seats ? null : m.pieces(shares, m.minutes[s]);
        due("pieces(" + s + ", -1)", x.pieces(s, -1), pieces == null ? -2 : pieces.size() / 2);
        int what = random.nextInt(8);
        boolean there = pieces != null && what < pieces.size();
        due("pieces(" + s + ", " + what + ")", x.pieces(s, what), there ? pieces.get(what) : -2);
    }

    private void askOfJourneys() {
        if (journeys == null || m.riders == 0) {
            due("evenest(13, 0)", x.evenest(13, 0), -1);
            return;
        }
        int how = random.nextInt(5);
        if (how == 0) {
            due("after()", x.after(), m.after(gains));
        } else if (how == 1) {
            worst();
        } else if (how == 2) {
            fits();
        } else {
            int limit = random.nextInt(13);
            int best = m.evenest(gains, m.past, limit);
            int[][] journey = best < 0 ? null : journeys.get(best);
            due("evenest(" + limit + ", 0)", x.evenest(limit, 0), best < 0 ? -1 : Model.spread(m.totals(journey, m.past)));
            int s = random.nextInt(4);
            boolean there = best >= 0 && s < m.stretches;
            due("evenest(" + limit + ", " + (2 + s) + ")", x.evenest(limit, 2 + s), there ? m.number(journey[s]) : -1);
        }
    }

    private void worst() {
        long worst = Due.THREW;
        long most = Due.THREW;
        for (int[] gain : gains) {
            int[] totals = new int[m.riders];
            Arrays.setAll(totals, r -> m.past[r] + gain[r]);
            worst = Math.max(worst, Arrays.stream(totals).min().getAsInt());
            most = Math.max(most, Arrays.stream(totals).sum());
        }
        due("worst()", Due.worst(x), worst);
        due("most(-1)", Due.most(x, -1), most);
    }

    private void fits() {
        List<int[][]> left = new ArrayList<>(journeys);
        for (int[] one : seen) {
            left.removeIf(journey -> journey[one[2]][one[0]] == one[1] != (one[3] == 1));
        }
        due("fits(0)", x.fits(0), left.size());
        int s = random.nextInt(4);
        boolean there = !left.isEmpty() && s < m.stretches;
        due("fits(" + (3 + s) + ")", x.fits(3 + s), there ? m.number(left.get(0)[s]) : -1);
    }

    private void askOfTheDoor() {
        int s = random.nextInt(4);
        int r = random.nextInt(5);
        int seat = random.nextInt(5);
        int what = random.nextInt(2);
        boolean there = s < m.stretches && r < m.riders && seat < m.seats;
        due("door(" + s + ", " + r + ", " + seat + ", " + what + ")", x.door(s, r, seat, what),
            there ? m.chance(s, r, seat)[what].longValueExact() : -1);
        int seed = random.nextInt(10000);
        int many = 1 + random.nextInt(5);
        due("years(" + seed + ", " + many + ", " + what + ")", x.years(seed, many, what),
            m.riders == 0 ? -1 : m.years(seed, many)[what]);
        int rule = random.nextInt(5);
        int[][] journey = rule < m.rules.size() && m.riders > 0 ? m.byRule(rule) : null;
        due("called(" + rule + ", 0)", x.called(rule, 0), journey == null ? -1 : Model.spread(m.totals(journey, m.past)));
    }
}
