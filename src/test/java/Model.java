import java.math.BigInteger;
import java.util.ArrayList;
import java.util.Arrays;
import java.util.List;
import java.util.Random;

/** A drawn ROAD, and its answers by the plainest ways: all journeys, all orders, all plans. */
final class Model {
    /** An E that was drawn together with its text. */
    interface Law {
        int of(int[] facts);
    }

    static final String[] KINDS = {"plain", "sick", "sleeper", "small"};
    static final String[] WORTH_FACTS = {"base", "time", "kind", "end", "tip"};
    static final String[] RULE_FACTS = {"seat", "stop", "who"};

    final Random random;
    final StringBuilder text = new StringBuilder();
    final int seats;
    final int stretches;
    final int riders;
    final int[] minutes = new int[4];
    final int[][] has = new int[4][4];
    final int[] kind = new int[4];
    final int[] dash = new int[4];
    final int[] past = new int[4];
    final boolean[][] apart = new boolean[4][4];
    final boolean[][] never = new boolean[4][4];
    final boolean[] gap = new boolean[4];
    int fight = 0;
    Law worth = facts -> facts[0] * facts[1];
    final List<Law> rules = new ArrayList<>();
    List<int[]> lawfulPlans = new ArrayList<>();

    Model(Random random, int seats, int stretches, int riders) {
        this.random = random;
        this.seats = seats;
        this.stretches = stretches;
        this.riders = riders;
        text.append("seats ").append(seats).append(";");
        drawStretches();
        drawRiders();
        drawLaws();
        for (int[] plan : allPlans()) {
            if (isLawful(plan)) {
                lawfulPlans.add(plan);
            }
        }
    }

    private void drawStretches() {
        for (int s = 0; s < stretches; s++) {
            minutes[s] = 1 + random.nextInt(random.nextBoolean() ? 99 : 5);
            text.append("stretch ").append(minutes[s]).append(" has");
            for (int i = 0; i < seats; i++) {
                has[s][i] = random.nextInt(10);
                text.append(' ').append(has[s][i]);
            }
            text.append(";\n");
        }
    }

    private void drawRiders() {
        int pasts = random.nextBoolean() ? 10000 : 50;
        for (int r = 0; r < riders; r++) {
            kind[r] = random.nextInt(3) == 0 ? random.nextInt(4) : random.nextInt(2) * 2;
            dash[r] = 1 + random.nextInt(9);
            past[r] = random.nextInt(pasts);
            text.append("rider ").append((char) ('a' + r)).append(' ').append(KINDS[kind[r]]);
            text.append(" dash ").append(dash[r]).append(" past ").append(past[r]).append(';');
        }
        for (int r = 0; r < riders; r++) {
            for (int q = 0; q < r; q++) {
                if (random.nextInt(6) == 0) {
                    apart[r][q] = true;
                    apart[q][r] = true;
                    text.append("apart ").append((char) ('a' + r)).append(' ').append((char) ('a' + q)).append(';');
                }
            }
            for (int i = 0; i < seats; i++) {
                if (random.nextInt(10) == 0) {
                    never[r][i] = true;
                    text.append("never ").append((char) ('a' + r)).append(i).append(';');
                }
            }
        }
    }

    private void drawLaws() {
        for (int i = 0; i + 1 < seats; i++) {
            if (random.nextInt(4) == 0) {
                gap[i] = true;
                text.append("gap ").append(i).append(';');
            }
        }
        if (random.nextBoolean()) {
            fight = random.nextInt(100);
            text.append("fight ").append(fight).append(';');
        }
        if (random.nextInt(3) > 0) {
            text.append("worth ");
            worth = drawE(0, WORTH_FACTS);
            text.append(';');
        }
        int many = random.nextInt(5);
        for (int i = 0; i < many; i++) {
            text.append("rule r").append((char) ('a' + i)).append(' ');
            if (random.nextBoolean()) {
                int by = random.nextInt(5);
                text.append("seat+").append(by).append("*(stop<2)");
                rules.add(f -> f[0] + by * (f[1] < 2 ? 1 : 0));
            } else {
                rules.add(drawE(0, RULE_FACTS));
            }
            text.append(';');
        }
    }

    private Law drawE(int within, String[] facts) {
        Law left = drawTest(within, facts);
        for (int i = random.nextInt(3); i > 1; i--) {
            Law before = left;
            boolean and = random.nextBoolean();
            text.append(and ? " and " : " or ");
            Law right = drawTest(within, facts);
            left = f -> and ? (before.of(f) != 0 & right.of(f) != 0 ? 1 : 0) : (before.of(f) != 0 | right.of(f) != 0 ? 1 : 0);
        }
        return left;
    }

    private Law drawTest(int within, String[] facts) {
        Law left = drawSum(within, facts);
        int how = random.nextInt(8);
        if (how > 1) {
            return left;
        }
        text.append(how == 0 ? "<" : " = ");
        Law right = drawSum(within, facts);
        return f -> (how == 0 ? left.of(f) < right.of(f) : left.of(f) == right.of(f)) ? 1 : 0;
    }

    private Law drawSum(int within, String[] facts) {
        Law left = drawProduct(within, facts);
        for (int i = random.nextInt(4); i > 1; i--) {
            Law before = left;
            boolean plus = random.nextInt(3) > 0;
            text.append(plus ? "+" : "-");
            Law right = drawProduct(within, facts);
            left = f -> plus ? before.of(f) + right.of(f) : before.of(f) - right.of(f);
        }
        return left;
    }

    private Law drawProduct(int within, String[] facts) {
        Law left = drawPart(within, facts);
        for (int i = random.nextInt(3); i > 1; i--) {
            Law before = left;
            text.append('*');
            Law right = drawPart(within, facts);
            left = f -> before.of(f) * right.of(f);
        }
        return left;
    }

    private Law drawPart(int within, String[] facts) {
        int how = random.nextInt(within < 4 ? 8 : 6);
        if (how == 7) {
            text.append('(');
            Law inside = drawE(within + 1, facts);
            text.append(')');
            return inside;
        }
        if (how == 6) {
            text.append("not ");
            Law inside = drawPart(within + 1, facts);
            return f -> inside.of(f) == 0 ? 1 : 0;
        }
        if (how > 1) {
            int fact = random.nextInt(facts.length);
            text.append(facts[fact]);
            return f -> f[fact];
        }
        int number = random.nextInt(random.nextInt(4) == 0 ? 10000 : 40);
        text.append(number);
        return f -> number;
    }

    // ---- plans

    List<int[]> allPlans() {
        List<int[]> found = new ArrayList<>();
        extend(new int[0], found);
        return found;
    }

    private void extend(int[] begun, List<int[]> found) {
        if (begun.length == riders) {
            found.add(begun);
            return;
        }
        for (int seat = 0; seat < seats; seat++) {
            final int wanted = seat;
            if (Arrays.stream(begun).noneMatch(s -> s == wanted)) {
                int[] longer = Arrays.copyOf(begun, begun.length + 1);
                longer[begun.length] = seat;
                extend(longer, found);
            }
        }
    }

    int number(int[] plan) {
        int number = 0;
        for (int seat : plan) {
            number = number * 4 + seat;
        }
        return number;
    }

    boolean beside(int one, int other) {
        return one >= 0 && other >= 0 && (one + 1 == other && !gap[one] || other + 1 == one && !gap[other]);
    }

    boolean maySit(int rider, int seat) {
        return !never[rider][seat] && (kind[rider] != 1 || seat == 0 || seat == seats - 1);
    }

    boolean isLawful(int[] plan) {
        for (int r = 0; r < riders; r++) {
            if (!maySit(r, plan[r])) {
                return false;
            }
            for (int q = 0; q < riders; q++) {
                if (apart[r][q] && beside(plan[r], plan[q])) {
                    return false;
                }
            }
        }
        return true;
    }

    int worth(int[] plan, int rider, int stretch) {
        int tip = 0;
        for (int q = 0; q < riders; q++) {
            if (kind[q] == 2 && q != rider && beside(plan[rider], plan[q])) {
                tip++;
            }
        }
        return seatWorth(rider, plan[rider], stretch, tip);
    }

    int seatWorth(int rider, int seat, int stretch, int tip) {
        int end = seat == 0 || seat == seats - 1 ? 1 : 0;
        int value = worth.of(new int[] {has[stretch][seat], minutes[stretch], kind[rider], end, tip});
        return value < 0 ? 0 : value > 999 ? 999 : value;
    }

    // ---- journeys as a whole

    /** All LAWFUL journeys in order. */
    List<int[][]> journeys() {
        List<int[][]> found = new ArrayList<>();
        found.add(new int[0][]);
        for (int s = 0; s < stretches; s++) {
            List<int[][]> longer = new ArrayList<>();
            for (int[][] begun : found) {
                for (int[] plan : lawfulPlans) {
                    int[][] next = Arrays.copyOf(begun, s + 1);
                    next[s] = plan;
                    longer.add(next);
                }
            }
            found = longer;
        }
        return found;
    }

    int[] totals(int[][] journey, int[] from) {
        int[] totals = Arrays.copyOf(from, riders);
        for (int s = 0; s < journey.length; s++) {
            for (int r = 0; r < riders; r++) {
                totals[r] += worth(journey[s], r, s);
                if (s > 0 && journey[s][r] != journey[s - 1][r]) {
                    totals[r] -= fight;
                }
            }
        }
        return totals;
    }

    int moves(int[][] journey) {
        int moves = 0;
        for (int s = 1; s < journey.length; s++) {
            for (int r = 0; r < riders; r++) {
                if (journey[s][r] != journey[s - 1][r]) {
                    moves++;
                }
            }
        }
        return moves;
    }

    static int spread(int[] totals) {
        return Arrays.stream(totals).max().getAsInt() - Arrays.stream(totals).min().getAsInt();
    }

    /** What each journey adds to the totals, and its moves behind that. */
    int[][] gains(List<int[][]> journeys) {
        int[][] gains = new int[journeys.size()][];
        for (int i = 0; i < gains.length; i++) {
            gains[i] = Arrays.copyOf(totals(journeys.get(i), new int[4]), riders + 1);
            gains[i][riders] = moves(journeys.get(i));
        }
        return gains;
    }

    int evenest(int[][] gains, int[] from, int limit) {
        int best = -1;
        int bestSpread = 0;
        for (int i = 0; i < gains.length; i++) {
            int low = Integer.MAX_VALUE;
            int high = Integer.MIN_VALUE;
            for (int r = 0; r < riders; r++) {
                low = Math.min(low, from[r] + gains[i][r]);
                high = Math.max(high, from[r] + gains[i][r]);
            }
            int moves = gains[i][riders];
            boolean better = best == -1 || high - low < bestSpread || high - low == bestSpread && moves < gains[best][riders];
            if (moves <= limit && better) {
                best = i;
                bestSpread = high - low;
            }
        }
        return best;
    }

    int after(int[][] gains) {
        int[] totals = Arrays.copyOf(past, 4);
        for (int time = 1; time <= 20; time++) {
            int best = evenest(gains, totals, 99);
            if (best == -1) {
                return -1;
            }
            for (int r = 0; r < riders; r++) {
                totals[r] += gains[best][r];
            }
            if (spread(Arrays.copyOf(totals, riders)) == 0) {
                return time;
            }
        }
        return -1;
    }

    /** The journey by a rule; null: it is none. */
    int[][] byRule(int rule) {
        int[][] journey = new int[stretches][riders];
        for (int s = 0; s < stretches; s++) {
            for (int r = 0; r < riders; r++) {
                int seat = s == 0 ? r : journey[s - 1][r];
                int goal = rules.get(rule).of(new int[] {seat, s, r}) % seats;
                journey[s][r] = goal < 0 ? goal + seats : goal;
            }
            boolean oneEach = Arrays.stream(journey[s]).distinct().count() == riders;
            if (!oneEach || !isLawful(journey[s])) {
                return null;
            }
        }
        return journey;
    }

    // ---- the door

    int takes(int stretch, int rider, boolean[] taken) {
        int found = -1;
        for (int seat = seats - 1; seat >= 0; seat--) {
            if (!taken[seat] && maySit(rider, seat) && (found == -1 || has[stretch][seat] >= has[stretch][found])) {
                found = seat;
            }
        }
        return found;
    }

    int[] seatsBy(int stretch, int[] order) {
        int[] got = new int[riders];
        boolean[] taken = new boolean[seats];
        for (int rider : order) {
            got[rider] = takes(stretch, rider, taken);
            if (got[rider] >= 0) {
                taken[got[rider]] = true;
            }
        }
        return got;
    }

    List<int[]> orders() {
        List<int[]> found = new ArrayList<>();
        found.add(new int[0]);
        for (int i = 0; i < riders; i++) {
            List<int[]> longer = new ArrayList<>();
            for (int[] begun : found) {
                for (int r = 0; r < riders; r++) {
                    final int who = r;
                    if (Arrays.stream(begun).noneMatch(q -> q == who)) {
                        int[] next = Arrays.copyOf(begun, begun.length + 1);
                        next[begun.length] = r;
                        longer.add(next);
                    }
                }
            }
            found = longer;
        }
        return found;
    }

    BigInteger[] chance(int stretch, int rider, int seat) {
        BigInteger above = BigInteger.ZERO;
        BigInteger below = BigInteger.ONE;
        for (int[] order : orders()) {
            if (seatsBy(stretch, order)[rider] == seat) {
                long up = 1;
                long down = 1;
                int left = Arrays.stream(dash).limit(riders).sum();
                for (int who : order) {
                    up *= dash[who];
                    down *= left;
                    left -= dash[who];
                }
                above = above.multiply(BigInteger.valueOf(down)).add(below.multiply(BigInteger.valueOf(up)));
                below = below.multiply(BigInteger.valueOf(down));
            }
        }
        BigInteger common = above.gcd(below);
        return new BigInteger[] {above.divide(common), below.divide(common)};
    }

    int[] years(int seed, int journeys) {
        BigInteger g = BigInteger.valueOf(seed);
        int[] totals = Arrays.copyOf(past, riders);
        int without = 0;
        for (int j = 0; j < journeys; j++) {
            for (int s = 0; s < stretches; s++) {
                List<Integer> left = new ArrayList<>();
                for (int r = 0; r < riders; r++) {
                    left.add(r);
                }
                int[] order = new int[riders];
                for (int i = 0; i < riders; i++) {
                    g = g.multiply(BigInteger.valueOf(1103515245)).add(BigInteger.valueOf(12345)).mod(BigInteger.ONE.shiftLeft(31));
                    List<Integer> tickets = new ArrayList<>();
                    for (int r : left) {
                        for (int d = 0; d < dash[r]; d++) {
                            tickets.add(r);
                        }
                    }
                    order[i] = tickets.get(g.intValue() / 65536 % tickets.size());
                    left.remove(Integer.valueOf(order[i]));
                }
                int[] got = seatsBy(s, order);
                for (int r = 0; r < riders; r++) {
                    if (got[r] < 0) {
                        without++;
                    } else {
                        totals[r] += worth(got, r, s);
                    }
                }
            }
        }
        return new int[] {riders == 0 ? -1 : spread(totals), without};
    }

    // ---- pieces

    /** PLANS and their minutes, one behind another; null: the SHARES don't add up to so many minutes. */
    List<Integer> pieces(int[][] shares, int due) {
        int[][] left = new int[4][];
        for (int i = 0; i < 4; i++) {
            left[i] = shares[i].clone();
        }
        for (int i = 0; i < seats; i++) {
            final int column = i;
            if (Arrays.stream(left[i]).sum() != due || Arrays.stream(left).mapToInt(row -> row[column]).sum() != due) {
                return null;
            }
        }
        List<Integer> found = new ArrayList<>();
        for (int[] plan : allPlans()) {
            int least = due;
            for (int r = 0; r < riders; r++) {
                least = Math.min(least, left[r][plan[r]]);
            }
            // What one PLAN has used up stays used up, so going through them once is enough.
            if (least > 0) {
                for (int r = 0; r < riders; r++) {
                    left[r][plan[r]] -= least;
                }
                found.add(number(plan));
                found.add(least);
            }
        }
        return found;
    }

    // ---- toffees

    /** The greatest sum for all RIDERS but one (-1: all), with all SEATS but one (-1: all). */
    int greatestWithout(int stretch, int rider, int seat) {
        int best = 0;
        for (int[] plan : allPlans()) {
            int sum = 0;
            for (int r = 0; r < riders; r++) {
                if (r != rider && plan[r] != seat) {
                    sum += seatWorth(r, plan[r], stretch, 0);
                }
            }
            best = Math.max(best, sum);
        }
        return best;
    }
}
