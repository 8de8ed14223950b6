import java.util.Arrays;

/** Who sits where, which stretch is to come, and the totals, copied whole each time. */
final class Hand {
    int[] seat = {-1, -1, -1, -1};
    int[] ahead = {-1, -1, -1, -1};
    int[] total;
    int next = 0;

    Hand(int[] past) {
        total = past.clone();
    }

    Hand copy() {
        Hand other = new Hand(total);
        other.seat = seat.clone();
        other.ahead = ahead.clone();
        other.next = next;
        return other;
    }

    int sit(int rider, int goal) {
        int who = -1;
        for (int r = 0; r < 4; r++) {
            if (seat[r] == goal) {
                who = r;
            }
        }
        if (who >= 0) {
            seat[who] = seat[rider];
        }
        seat[rider] = goal;
        return who;
    }

    boolean drive(Model m) {
        int[] plan = Arrays.copyOf(seat, m.riders);
        if (next >= m.stretches || Arrays.stream(plan).anyMatch(s -> s < 0) || !m.isLawful(plan)) {
            return false;
        }
        for (int r = 0; r < m.riders; r++) {
            total[r] += m.worth(plan, r, next) - (next > 0 && ahead[r] != seat[r] ? m.fight : 0);
        }
        ahead = seat.clone();
        next++;
        return true;
    }
}
