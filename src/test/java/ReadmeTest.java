/** The example in README.md: the same calls have the answers that stand behind them there. */
public final class ReadmeTest {
    private ReadmeTest() {
    }

    public static void main(String[] args) {
        MiddleSeat x = new MiddleSeat();
        feed(x, "seats 3; stretch 10 has 5 0 3; stretch 20 has 2 1 4;"
            + "rider ann plain dash 2 past 0; rider bob sick dash 1 past 10; rider cat sleeper dash 3 past 5;"
            + "never cat 0; fight 7; rule stay seat + 2 * (stop = 0);");
        Due.due("road()", x.road(), 0);
        Due.due("plans()", x.plans(), 3);
        Due.due("sit(0, 2)", x.sit(0, 2), -1);
        x.sit(1, 0);
        x.sit(2, 1);
        Due.due("drive()", x.drive(), 1);
        Due.due("rider(0, 4)", Due.rider(x, 0, 4), 30);
        Due.due("sit(0, 1)", x.sit(0, 1), 2);
        Due.due("undo()", x.undo(), true);
        Due.due("evenest(12, 0)", x.evenest(12, 0), 15);
        Due.due("evenest(12, 2)", x.evenest(12, 2), 9);
        Due.due("door(0, 2, 2, 0)", x.door(0, 2, 2, 0), 17);
        Due.due("door(0, 2, 2, 1)", x.door(0, 2, 2, 1), 20);
        Due.due("toffees(0, 0)", x.toffees(0, 0), 50);
        feed(x, "seats 5;");
        Due.due("road()", x.road(), 100);
        Due.due("count(0)", x.count(0), 3);
        Due.end();
    }

    private static void feed(MiddleSeat x, String text) {
        for (int from = 0; from < text.length(); from += 24) {
            long[] eight = new long[3];
            for (int i = 0; i < 24; i++) {
                int sign = from + i < text.length() ? text.charAt(from + i) : 0;
                eight[i / 8] = eight[i / 8] << 8 | sign;
            }
            x.feed(eight[0], eight[1], eight[2]);
        }
    }
}
