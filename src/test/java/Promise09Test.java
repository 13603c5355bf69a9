/** way: the fewest days between two towns. */
public final class Promise09Test extends Promise {
    public static void main(String[] args) {
        test(9, "0 to itself, with no ROAD and with many", () -> {
            CrownlessDays none = new CrownlessDays(), many = full();
            for (int t = 0; t < 8; t++) {
                due("way(" + t + ", " + t + ")", none.way(t, t), 0);
                due("way(" + t + ", " + t + ") by roads", many.way(t, t), 0);
            }
        });
        test(9, "NONE: there is none", () -> {
            CrownlessDays none = new CrownlessDays(), two = with("ab1;gh1", "");
            due("way(0, 7) with no road", none.way(0, 7), NONE);
            due("way(0, 7)", two.way(0, 7), NONE);
            due("way(7, 0)", two.way(7, 0), NONE);
            due("way(1, 6)", two.way(1, 6), NONE);
        });
        test(9, "either way", () -> {
            CrownlessDays x = with("ah5", "");
            due("way(0, 7)", x.way(0, 7), 5);
            due("way(7, 0)", x.way(7, 0), 5);
        });
        test(9, "the fewest DAYS, not the fewest ROADS", () -> {
            CrownlessDays x = with("ab9;ac1;cd1;db1", "");
            due("way(0, 1)", x.way(0, 1), 3);
            due("way(1, 0)", x.way(1, 0), 3);
        });
        test(9, "of two ROADS between two TOWNS the shorter, wherever it stands", () -> {
            due("way(0, 1)", with("ab2;ab7", "").way(0, 1), 2);
            due("way(0, 1)", with("ab7;ba2", "").way(0, 1), 2);
        });
        test(9, "the last of 12 ROADS counts", () ->
                due("way(6, 7)", with("ab1;ab1;ab1;ab1;ab1;ab1;ab1;ab1;ab1;ab1;ab1;gh4", "").way(6, 7), 4));
        test(9, "the longest WAY is 63", () -> {
            CrownlessDays x = with(LONGEST, "");
            due("way(0, 7)", x.way(0, 7), 63);
            due("way(7, 0)", x.way(7, 0), 63);
        });
        test(9, "a longest WAY in any order of ROADS and TOWNS", () -> {
            CrownlessDays x = with("hd9;ae9;cg9;fb9;ga9;dc9;eb9", "");
            due("way(7, 5)", x.way(7, 5), 63);
            due("way(5, 7)", x.way(5, 7), 63);
        });
        test(9, "a TOWN below 0 is BAD", () -> {
            refused("way(-1, 0)", BAD, x -> x.way(-1, 0));
            refused("way(0, -1)", BAD, x -> x.way(0, -1));
            refused("way(-1, -1)", BAD, x -> x.way(-1, -1));
            refused("way(least, 0)", BAD, x -> x.way(LEAST, 0));
            refused("way(0, least)", BAD, x -> x.way(0, LEAST));
        });
        test(9, "a TOWN above 7 is BAD", () -> {
            refused("way(8, 0)", BAD, x -> x.way(8, 0));
            refused("way(0, 8)", BAD, x -> x.way(0, 8));
            refused("way(8, 8)", BAD, x -> x.way(8, 8));
            refused("way(most, 0)", BAD, x -> x.way(MOST, 0));
            refused("way(0, most)", BAD, x -> x.way(0, MOST));
        });
        Check.end();
    }
}
