/** road: both towns of a road, and how long it is. */
public final class Promise06Test extends Promise {
    public static void main(String[] args) {
        test(6, "TOWNS are 0 to 7", () -> {
            CrownlessDays x = with("ah1;ha1", "");
            due("road(0, 0)", x.road(0, 0), 0);
            due("road(0, 1)", x.road(0, 1), 7);
            due("road(1, 0)", x.road(1, 0), 7);
            due("road(1, 1)", x.road(1, 1), 0);
        });
        test(6, "DAYS are 1 to 9", () -> {
            CrownlessDays x = with("ab1;ab9", "");
            due("road(0, 2)", x.road(0, 2), 1);
            due("road(1, 2)", x.road(1, 2), 9);
        });
        test(6, "12 ROADS at most, 0 on", () -> {
            CrownlessDays x = full();
            for (int r = 0; r < 12; r++) {
                due("road(" + r + ", 0)", x.road(r, 0), TWELVE_ROADS.charAt(4 * r) - 'a');
                due("road(" + r + ", 1)", x.road(r, 1), TWELVE_ROADS.charAt(4 * r + 1) - 'a');
                due("road(" + r + ", 2)", x.road(r, 2), TWELVE_ROADS.charAt(4 * r + 2) - '0');
            }
            refused("road(12, 0)", BAD, Promise::full, y -> y.road(12, 0));
        });
        test(6, "a ROAD that there is not is BAD", () -> {
            refused("road(5, 0) of five", BAD, x -> x.road(5, 0));
            refused("road(most, 2)", BAD, x -> x.road(MOST, 2));
            due("road(0, 0) of none", new CrownlessDays().road(0, 0), BAD);
        });
        test(6, "a ROAD below 0 is BAD", () -> {
            refused("road(-1, 0)", BAD, x -> x.road(-1, 0));
            refused("road(least, 2)", BAD, x -> x.road(LEAST, 2));
        });
        test(6, "what below 0 is BAD", () -> {
            refused("road(0, -1)", BAD, x -> x.road(0, -1));
            refused("road(0, least)", BAD, x -> x.road(0, LEAST));
        });
        test(6, "what above 2 is BAD", () -> {
            refused("road(0, 3)", BAD, x -> x.road(0, 3));
            refused("road(0, most)", BAD, x -> x.road(0, MOST));
        });
        test(6, "of a text with a FAULT each is BAD", () -> {
            CrownlessDays x = with("ab1;c", "");
            due("road(0, 0)", x.road(0, 0), BAD);
            due("road(1, 0)", x.road(1, 0), BAD);
        });
        Check.end();
    }
}
