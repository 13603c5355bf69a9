/** out: the exact chance that a town hears by a day, each road being out by itself. */
public final class Promise23Test extends Promise {
    private static final long BAD_LONG = Long.MIN_VALUE + 2;
    private static final String TWELVE_LIKE = "ab1;ab1;ab1;ab1;ab1;ab1;ab1;ab1;ab1;ab1;ab1;ab1";

    public static void main(String[] args) {
        sixteenths();
        days();
        fractions();
        refusals();
        Check.end();
    }

    private static void out(CrownlessDays x, int c, int town, int day, long above, long below) {
        String call = "out(" + c + ", " + town + ", " + day;
        due(call + ", 0)", x.out(c, town, day, 0), above);
        due(call + ", 1)", x.out(c, town, day, 1), below);
    }

    private static void sixteenths() {
        test(23, "0 sixteenths: each ROAD is there", () -> {
            out(with("ab3", ""), 0, 1, 3, 1, 1);
            out(with(LONGEST, ""), 0, 7, 63, 1, 1);
        });
        test(23, "16 sixteenths: each ROAD is out", () -> {
            CrownlessDays x = with("ab3", "");
            out(x, 16, 1, 99, 0, 1);
            out(x, 16, 0, 0, 1, 1);
        });
        test(23, "1 and 15 sixteenths", () -> {
            CrownlessDays x = with("ab3", "");
            out(x, 1, 1, 3, 15, 16);
            out(x, 15, 1, 3, 1, 16);
        });
        test(23, "each ROAD by itself", () -> {
            out(with("ab3;bc2", ""), 8, 2, 5, 1, 4);
            out(with("ab3;ab3", ""), 8, 1, 3, 3, 4);
            out(with("ab1;bd1;ac1;cd1;bc1", ""), 8, 3, 3, 1, 2);
        });
        test(23, "no ROADS: where he DIED alone", () -> {
            CrownlessDays x = new CrownlessDays();
            out(x, 5, 0, 0, 1, 1);
            out(x, 5, 1, 99, 0, 1);
        });
        test(23, "ROADS with a FAULT are none", () -> out(with("ab3;", ""), 0, 1, 99, 0, 1));
    }

    private static void days() {
        test(23, "by a DAY: on it, too, not the DAY ahead", () -> {
            CrownlessDays x = with("ab3;ab5", "");
            out(x, 8, 1, 2, 0, 1);
            out(x, 8, 1, 3, 1, 2);
            out(x, 8, 1, 4, 1, 2);
            out(x, 8, 1, 5, 3, 4);
        });
        test(23, "DAY 0 is the least", () -> {
            CrownlessDays x = with("ab1", "");
            out(x, 8, 0, 0, 1, 1);
            out(x, 8, 1, 0, 0, 1);
        });
        test(23, "DAY 99 is the greatest", () -> {
            CrownlessDays x = with(LONGEST, "");
            x.set(1, 9);
            x.set(2, 9);
            out(x, 8, 7, 99, 1, 128);
            out(x, 8, 7, 81, 1, 128);
            out(x, 8, 7, 80, 0, 1);
        });
        test(23, "the DAY on which he DIED and HIDDEN count", () -> {
            CrownlessDays x = with("ab3", "");
            x.set(1, 9);
            out(x, 8, 0, 8, 0, 1);
            out(x, 8, 0, 9, 1, 1);
            x.set(2, 9);
            out(x, 8, 0, 17, 0, 1);
            out(x, 8, 0, 18, 1, 1);
            out(x, 8, 1, 20, 0, 1);
            out(x, 8, 1, 21, 1, 2);
        });
        test(23, "from where he DIED, TOWN 7 to TOWN 0 too", () -> {
            CrownlessDays x = with("ah3", "");
            x.set(0, 7);
            out(x, 8, 7, 0, 1, 1);
            out(x, 8, 0, 3, 1, 2);
        });
    }

    private static void fractions() {
        test(23, "0 by 1", () -> out(with("ab3", ""), 5, 1, 2, 0, 1));
        test(23, "1 by 1", () -> out(with("ab3", ""), 5, 0, 99, 1, 1));
        test(23, "in lowest terms", () -> {
            CrownlessDays x = with("ab3", "");
            out(x, 4, 1, 3, 3, 4);
            out(x, 5, 1, 3, 11, 16);
            out(x, 12, 1, 3, 1, 4);
            CrownlessDays y = with("ab3;cd1;ef1;gh1;cd2;ef2;gh2;cd3;ef3;gh3;ce9;df9", "");
            out(y, 5, 1, 3, 11, 16);
        });
        test(23, "12 ROADS: 16 to the power of 12 is the greatest below", () -> {
            CrownlessDays x = with(TWELVE_LIKE, "");
            out(x, 1, 1, 1, (1L << 48) - 1, 1L << 48);
            out(x, 15, 1, 1, (1L << 48) - 129746337890625L, 1L << 48);
            out(x, 0, 1, 1, 1, 1);
            out(x, 16, 1, 1, 0, 1);
        });
        test(23, "the first six and the last six of 12 ROADS, all needed", () -> {
            String six = "ab1;bc1;cd1;de1;ef1;fg1", others = "gh1;gh2;gh3;gh4;gh5;gh6";
            out(with(six + ";" + others, ""), 8, 6, 6, 1, 64);
            out(with(others + ";" + six, ""), 8, 6, 6, 1, 64);
            out(with(others + ";" + six, ""), 8, 7, 7, 1, 128);
            out(with(others + ";" + six, ""), 8, 7, 12, 63, 4096);
        });
        test(23, "each of 12 ROADS alone", () -> {
            for (int r = 0; r < 12; r++) {
                StringBuilder roads = new StringBuilder();
                for (int i = 0; i < 12; i++) {
                    roads.append(i == 0 ? "" : ";").append(i == r ? "ab1" : i == (r + 1) % 12 ? "bh1" : "cd1");
                }
                out(with(roads.toString(), ""), 8, 7, 2, 1, 4);
            }
        });
    }

    private static void refusals() {
        test(23, "sixteenths below 0 are BAD", () -> {
            refused("out(-1, 0, 0, 0)", BAD_LONG, x -> x.out(-1, 0, 0, 0));
            refused("out(least, 0, 0, 1)", BAD_LONG, x -> x.out(LEAST, 0, 0, 1));
        });
        test(23, "sixteenths above 16 are BAD", () -> {
            refused("out(17, 0, 0, 0)", BAD_LONG, x -> x.out(17, 0, 0, 0));
            refused("out(most, 0, 0, 1)", BAD_LONG, x -> x.out(MOST, 0, 0, 1));
        });
        test(23, "a TOWN below 0 is BAD", () -> {
            refused("out(0, -1, 0, 0)", BAD_LONG, x -> x.out(0, -1, 0, 0));
            refused("out(0, least, 0, 1)", BAD_LONG, x -> x.out(0, LEAST, 0, 1));
        });
        test(23, "a TOWN above 7 is BAD", () -> {
            refused("out(0, 8, 0, 0)", BAD_LONG, x -> x.out(0, 8, 0, 0));
            refused("out(0, most, 0, 1)", BAD_LONG, x -> x.out(0, MOST, 0, 1));
        });
        test(23, "a DAY below 0 is BAD", () -> {
            refused("out(0, 0, -1, 0)", BAD_LONG, x -> x.out(0, 0, -1, 0));
            refused("out(0, 0, least, 1)", BAD_LONG, x -> x.out(0, 0, LEAST, 1));
        });
        test(23, "a DAY above 99 is BAD", () -> {
            refused("out(0, 0, 100, 0)", BAD_LONG, x -> x.out(0, 0, 100, 0));
            refused("out(0, 0, most, 1)", BAD_LONG, x -> x.out(0, 0, MOST, 1));
        });
        test(23, "what below 0 is BAD", () -> {
            refused("out(0, 0, 0, -1)", BAD_LONG, x -> x.out(0, 0, 0, -1));
            refused("out(0, 0, 0, least)", BAD_LONG, x -> x.out(0, 0, 0, LEAST));
        });
        test(23, "what above 1 is BAD", () -> {
            refused("out(0, 0, 0, 2)", BAD_LONG, x -> x.out(0, 0, 0, 2));
            refused("out(0, 0, 0, most)", BAD_LONG, x -> x.out(0, 0, 0, MOST));
        });
    }
}
