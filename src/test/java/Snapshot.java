/** Answers of all calls that change nothing, one behind another, some 180 of them. */
final class Snapshot {
    /** Three seats, two stretches, all kinds of laws. */
    static final String ROAD = "seats 3 ; stretch 10 has 5 0 3 ; stretch 20 has 2 1 4 ;"
        + " rider ann plain dash 2 past 0 ; rider bob sick dash 1 past 10 ; rider cat sleeper dash 3 past 5 ;"
        + " never cat 0 ; fight 7 ; rule one seat ; rule turn seat + 1 ;"
        + " rule stay ( seat + 2 ) * ( stop = 0 ) + seat * ( 0 < stop ) ;";

    private Snapshot() {
    }

    /** An object on that road with something of all that can be done. */
    static MiddleSeat busy() {
        MiddleSeat x = Due.on(ROAD);
        Due.journey(x, "sit ann 0;sit bob 2;sit cat 1;drive;sit ann 1;drive;");
        x.sit(0, 0);
        x.sit(1, 2);
        x.sit(2, 1);
        x.drive();
        x.mark(2, false);
        Due.shares(x, "row 5 2 3;row 4 3 3;row 1 5 4;");
        x.see(0, 1, 1, true);
        x.sit(0, 1);
        return x;
    }

    static String of(MiddleSeat x) {
        StringBuilder all = new StringBuilder();
        for (int what = 0; what < 12; what++) {
            all.append(' ').append(x.count(what));
        }
        for (int i = 0; i < 4; i++) {
            for (int what = 0; what < 5; what++) {
                all.append(' ').append(Due.rider(x, i, what)).append(' ').append(x.stretch(i, what));
            }
            all.append(' ').append(x.judged(i)).append(' ').append(Due.most(x, i)).append(' ').append(x.toffees(1, i));
            all.append(' ').append(x.called(i, 0)).append(' ').append(x.door(0, i, 1, 0)).append(' ').append(x.pieces(0, i));
            all.append(' ').append(x.called(i, 2)).append(' ').append(x.door(0, i, 0, 1)).append(' ').append(x.toffees(0, i));
        }
        for (int what = 0; what < 5; what++) {
            all.append(' ').append(x.fits(what)).append(' ').append(x.evenest(12, what)).append(' ').append(x.evenest(0, what));
        }
        for (int plan : new int[] {0, 1, 4, 6, 9, 18, 24, 33, 36}) {
            all.append(' ').append(x.lawful(plan)).append(' ').append(x.worth(plan, 0, 1));
        }
        all.append(' ').append(x.plans()).append(' ').append(x.judged(-1)).append(' ').append(Due.most(x, -1));
        all.append(' ').append(Due.worst(x)).append(' ').append(x.after()).append(' ').append(x.pieces(0, -1));
        all.append(' ').append(x.toffees(0, -1)).append(' ').append(x.fairest());
        all.append(' ').append(x.years(7, 9, 0)).append(' ').append(x.years(7, 9, 1));
        return all.toString();
    }
}
