import java.math.BigInteger;
import java.util.ArrayList;
import java.util.Arrays;
import java.util.List;
import java.util.Random;

/** Drawn roads: each answer against the plain one of the Model (promises 3, 8 to 27). */
public final class BruteForceTest {
    private static final int ROADS = 700;

    private static String label = "";

    private BruteForceTest() {
    }

    public static void main(String[] args) {
        Random random = new Random(20261118);
        int tried = 0;
        for (int i = 0; i < ROADS; i++) {
            int seats = 2 + random.nextInt(3);
            int stretches = random.nextInt(i % 20 == 0 ? 5 : 4);
            int riders = random.nextInt(seats + 1);
            Model m = new Model(random, seats, stretches, riders);
            if (m.text.length() <= 1000) {
                label = "road " + i + " " + m.text + ": ";
                look(m, random);
                tried++;
            }
        }
        System.out.println(tried + " roads");
        Due.due("enough roads", tried > ROADS / 2, true);
        Due.end();
    }

    private static void due(String what, long got, long want) {
        Due.due(got == want ? what : label + what, got, want);
    }

    private static MiddleSeat fresh(Model m) {
        MiddleSeat x = new MiddleSeat();
        due("road()", Due.road(x, m.text.toString()), 0);
        return x;
    }

    private static void look(Model m, Random random) {
        plans(m);
        wholeJourneys(m, random);
        rules(m);
        door(m);
        years(m, random);
        if (m.riders == m.seats) {
            toffees(m);
            pieces(m, random);
        }
        byHand(m, random);
        judged(m, random);
    }

    private static void plans(Model m) {
        MiddleSeat x = fresh(m);
        due("plans()", x.plans(), m.lawfulPlans.size());
        int[][] byNumber = new int[260][];
        for (int[] plan : m.allPlans()) {
            byNumber[m.number(plan)] = plan;
        }
        for (int i = 0; i < 260; i++) {
            int want = byNumber[i] == null ? -1 : m.isLawful(byNumber[i]) ? 1 : 0;
            due("lawful(" + i + ")", x.lawful(i), want);
        }
        x = fresh(m);
        for (int[] plan : m.allPlans()) {
            for (int r = 0; r < m.riders; r++) {
                for (int s = 0; s < m.stretches; s++) {
                    due("worth(" + m.number(plan) + ", " + r + ", " + s + ")", x.worth(m.number(plan), r, s), m.worth(plan, r, s));
                }
            }
        }
    }

    private static void wholeJourneys(Model m, Random random) {
        MiddleSeat x = fresh(m);
        List<int[][]> journeys = m.journeys();
        int[][] gains = m.gains(journeys);
        int sum = Arrays.stream(m.past).limit(m.riders).sum();
        if (m.riders > 0) {
            for (int limit = 0; limit <= 12; limit++) {
                int best = m.evenest(gains, m.past, limit);
                for (int what = 0; what < 7; what++) {
                    due("evenest(" + limit + ", " + what + ")", x.evenest(limit, what), evenestDue(m, journeys, best, what));
                }
            }
            due("after()", x.after(), m.after(gains));
            due("evenest(12, 0) behind after()", x.evenest(12, 0), evenestDue(m, journeys, m.evenest(gains, m.past, 12), 0));
            mostAndWorst(m, x, journeys, gains, sum);
        }
        fits(m, x, journeys, random);
    }

    private static int evenestDue(Model m, List<int[][]> journeys, int best, int what) {
        if (best == -1 || what >= 2 + m.stretches) {
            return -1;
        }
        int[][] journey = journeys.get(best);
        if (what == 0) {
            return Model.spread(m.totals(journey, m.past));
        }
        return what == 1 ? m.moves(journey) : m.number(journey[what - 2]);
    }

    private static void mostAndWorst(Model m, MiddleSeat x, List<int[][]> journeys, int[][] gains, int sum) {
        int most = -1;
        int mostSum = 0;
        long worst = Due.THREW;
        for (int i = 0; i < gains.length; i++) {
            int all = sum + Arrays.stream(gains[i]).limit(m.riders).sum();
            if (most == -1 || all > mostSum) {
                most = i;
                mostSum = all;
            }
            int least = Integer.MAX_VALUE;
            for (int r = 0; r < m.riders; r++) {
                least = Math.min(least, m.past[r] + gains[i][r]);
            }
            worst = Math.max(worst, least);
        }
        due("most(-1)", Due.most(x, -1), most == -1 ? Due.THREW : mostSum);
        for (int s = 0; s < 5; s++) {
            boolean there = most != -1 && s < m.stretches;
            due("most(" + s + ")", Due.most(x, s), there ? m.number(journeys.get(most)[s]) : Due.THREW);
        }
        due("worst()", Due.worst(x), worst);
    }

    private static void fits(Model m, MiddleSeat x, List<int[][]> journeys, Random random) {
        List<int[][]> left = new ArrayList<>(journeys);
        for (int time = 0; time < 11; time++) {
            if (time > 0 && m.riders > 0 && m.stretches > 0) {
                int r = random.nextInt(m.riders);
                int seat = random.nextInt(m.seats);
                int s = random.nextInt(m.stretches);
                boolean sat = random.nextInt(4) == 0;
                due("see " + time, x.see(r, seat, s, sat) ? 1 : 0, 1);
                left.removeIf(journey -> (journey[s][r] == seat) != sat);
            }
            due("fits(0) time " + time, x.fits(0), left.size());
            int all = (1 << Math.max(0, m.stretches - 1)) - 1;
            int none = all;
            for (int[][] journey : left) {
                for (int stop = 0; stop + 1 < m.stretches; stop++) {
                    boolean changed = !Arrays.equals(journey[stop], journey[stop + 1]);
                    all &= changed ? -1 : ~(1 << stop);
                    none &= changed ? ~(1 << stop) : -1;
                }
            }
            due("fits(1) time " + time, x.fits(1), left.isEmpty() ? -1 : all);
            due("fits(2) time " + time, x.fits(2), left.isEmpty() ? -1 : none);
            for (int s = 0; s < 5; s++) {
                boolean there = s < m.stretches && !left.isEmpty();
                due("fits(" + (3 + s) + ") time " + time, x.fits(3 + s), there ? m.number(left.get(0)[s]) : -1);
            }
        }
    }

    private static void rules(Model m) {
        MiddleSeat x = fresh(m);
        int best = -1;
        int bestSpread = 0;
        for (int rule = 0; rule < 5; rule++) {
            int[][] journey = rule < m.rules.size() && m.riders > 0 ? m.byRule(rule) : null;
            int spread = journey == null ? -1 : Model.spread(m.totals(journey, m.past));
            due("called(" + rule + ", 0)", x.called(rule, 0), spread);
            for (int s = 0; s < 5; s++) {
                boolean there = journey != null && s < m.stretches;
                due("called(" + rule + ", " + (1 + s) + ")", x.called(rule, 1 + s), there ? m.number(journey[s]) : -1);
            }
            if (journey != null && (best == -1 || spread < bestSpread)) {
                best = rule;
                bestSpread = spread;
            }
        }
        due("fairest()", x.fairest(), best);
    }

    private static void door(Model m) {
        MiddleSeat x = fresh(m);
        for (int s = 0; s < m.stretches; s++) {
            for (int r = 0; r < m.riders; r++) {
                for (int seat = 0; seat < m.seats; seat++) {
                    BigInteger[] chance = m.chance(s, r, seat);
                    due("door(" + s + ", " + r + ", " + seat + ", 0)", x.door(s, r, seat, 0), chance[0].longValueExact());
                    due("door(" + s + ", " + r + ", " + seat + ", 1)", x.door(s, r, seat, 1), chance[1].longValueExact());
                }
            }
        }
    }

    private static void years(Model m, Random random) {
        MiddleSeat x = fresh(m);
        for (int i = 0; i < 4; i++) {
            int seed = random.nextInt(10000);
            int journeys = 1 + random.nextInt(60);
            int[] want = m.riders == 0 ? new int[] {-1, -1} : m.years(seed, journeys);
            due("years(" + seed + ", " + journeys + ", 0)", x.years(seed, journeys, 0), want[0]);
            due("years(" + seed + ", " + journeys + ", 1)", x.years(seed, journeys, 1), want[1]);
        }
    }

    /** The least prices are what each one's SEAT costs the others, which is another way to find them. */
    private static void toffees(Model m) {
        MiddleSeat x = fresh(m);
        for (int s = 0; s < m.stretches; s++) {
            int[] best = null;
            int bestSum = -1;
            for (int[] plan : m.allPlans()) {
                int sum = 0;
                for (int r = 0; r < m.riders; r++) {
                    sum += m.seatWorth(r, plan[r], s, 0);
                }
                if (sum > bestSum) {
                    best = plan;
                    bestSum = sum;
                }
            }
            due("toffees(" + s + ", -1)", x.toffees(s, -1), m.number(best));
            for (int r = 0; r < m.riders; r++) {
                int price = m.greatestWithout(s, r, -1) - (bestSum - m.seatWorth(r, best[r], s, 0));
                due("toffees(" + s + ", " + best[r] + ")", x.toffees(s, best[r]), price);
            }
        }
    }

    private static void pieces(Model m, Random random) {
        MiddleSeat x = fresh(m);
        List<int[]> plans = m.allPlans();
        for (int s = 0; s < m.stretches; s++) {
            int[][] minutes = new int[4][4];
            int left = m.minutes[s];
            while (left > 0) {
                int some = Math.min(left, 1 + random.nextInt(20));
                int[] plan = plans.get(random.nextInt(plans.size()));
                for (int r = 0; r < m.riders; r++) {
                    minutes[r][plan[r]] += some;
                }
                left -= some;
            }
            StringBuilder text = new StringBuilder();
            for (int r = 0; r < m.riders; r++) {
                text.append("row");
                for (int seat = 0; seat < m.seats; seat++) {
                    text.append(' ').append(minutes[r][seat]);
                }
                text.append(';');
            }
            due("shares " + text, Due.shares(x, text.toString()), 0);
            int many = 0;
            left = m.minutes[s];
            while (left > 0) {
                for (int[] plan : plans) {
                    int least = 99;
                    for (int r = 0; r < m.riders; r++) {
                        least = Math.min(least, minutes[r][plan[r]]);
                    }
                    if (least > 0) {
                        for (int r = 0; r < m.riders; r++) {
                            minutes[r][plan[r]] -= least;
                        }
                        due("pieces(" + s + ", " + 2 * many + ")", x.pieces(s, 2 * many), m.number(plan));
                        due("pieces(" + s + ", " + (2 * many + 1) + ")", x.pieces(s, 2 * many + 1), least);
                        many++;
                        left -= least;
                        break;
                    }
                }
            }
            due("pieces(" + s + ", -1)", x.pieces(s, -1), many);
            due("pieces(" + s + ", " + 2 * many + ")", x.pieces(s, 2 * many), -2);
        }
    }

    private static void byHand(Model m, Random random) {
        MiddleSeat x = fresh(m);
        Hand hand = new Hand(m.past);
        List<Hand> before = new ArrayList<>();
        Hand[] marks = new Hand[4];
        for (int i = 0; i < 60; i++) {
            int how = random.nextInt(12);
            if (how < 7 && m.riders > 0) {
                int r = random.nextInt(m.riders);
                int seat = random.nextInt(m.seats);
                if (hand.seat[r] == seat) {
                    due("sit where he sits", x.sit(r, seat), -2);
                } else {
                    before.add(hand.copy());
                    due("sit(" + r + ", " + seat + ")", x.sit(r, seat), hand.sit(r, seat));
                }
            } else if (how < 9) {
                Hand old = hand.copy();
                boolean can = hand.drive(m);
                if (can) {
                    before.add(old);
                }
                due("drive()", x.drive(), can ? hand.next : -1);
            } else if (how == 9) {
                due("undo()", x.undo() ? 1 : 0, before.isEmpty() ? 0 : 1);
                hand = before.isEmpty() ? hand : before.remove(before.size() - 1);
            } else {
                int mark = random.nextInt(4);
                boolean back = how == 11;
                due("mark", x.mark(mark, back) ? 1 : 0, back && marks[mark] == null ? 0 : 1);
                if (!back) {
                    marks[mark] = hand.copy();
                } else if (marks[mark] != null) {
                    hand = marks[mark].copy();
                    before.clear();
                }
            }
            while (before.size() > 16) {
                before.remove(0);
            }
            due("count(10)", x.count(10), before.size());
            due("count(4)", x.count(4), hand.next);
            for (int r = 0; r < m.riders; r++) {
                due("rider(" + r + ", 3)", Due.rider(x, r, 3), hand.seat[r]);
                due("rider(" + r + ", 4)", Due.rider(x, r, 4), hand.total[r]);
            }
        }
    }

    private static void judged(Model m, Random random) {
        MiddleSeat x = fresh(m);
        Hand hand = new Hand(m.past);
        StringBuilder text = new StringBuilder();
        int first = -1;
        int lines = random.nextInt(21);
        for (int line = 0; line < lines; line++) {
            if (m.riders > 0 && random.nextInt(4) > 0) {
                int r = random.nextInt(m.riders);
                int seat = random.nextInt(m.seats);
                text.append("sit ").append((char) ('a' + r)).append(seat).append(';');
                hand.sit(r, seat);
            } else {
                text.append("drive;");
                if (!hand.drive(m) && first == -1) {
                    first = line;
                }
            }
        }
        due("journey()", Due.journey(x, text.toString()), 0);
        due("count(6)", x.count(6), lines);
        due("judged(-1) of " + text, x.judged(-1), first);
        for (int r = 0; r < m.riders; r++) {
            due("judged(" + r + ") of " + text, x.judged(r), hand.total[r]);
        }
    }
}
