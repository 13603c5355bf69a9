/** swear: the fewest towns that swear so that nobody wins. */
public final class Promise15Test extends Promise {
    public static void main(String[] args) {
        test(15, "nobody WINS: no TOWN is to swear", () -> {
            swear(new CrownlessDays(), 0, 0);
            swear(neverCrowned("", "a2o1b;a0o1."), 0, 0);
        });
        test(15, "TOWN 0 alone, TOWN 7 alone", () -> {
            swear(neverCrowned("", "a9o1b;a0o1."), 1, 1);
            CrownlessDays x = with("ha1", "h9o1b;h0o1.");
            swear(x, 1, 128);
        });
        test(15, "a TOWN in which two WIN swears once", () ->
                swear(neverCrowned("", "a9o1c;a9o1d;a0o1.;a0o1."), 1, 1));
        test(15, "PERSON 7 alone WINS", () ->
                swear(neverCrowned("ab1", "a0o0.;a0o0.;a0o0.;a0o0.;a0o0.;a0o0.;b0o1.;a9o1g"), 1, 2));
        test(15, "it is that one's TOWN, not its own", () -> swear(neverCrowned("ab1", "a9o1b;b0o1."), 1, 2));
        test(15, "where all are BEATEN or TOO LATE a TOWN need not swear", () -> {
            swear(neverCrowned("ab1;ac1", "a9o1c;a0o1d;b0o1.;c0o1."), 1, 2);
            CrownlessDays x = with("ab3;ac3", "a9o1c;a9c1d;b0o1.;c0o1.");
            swear(x, 1, 2);
        });
        test(15, "7 TOWNS are the most", () -> {
            CrownlessDays x = with(LONGEST, "a9b1b;b8b1c;c7b1d;d6b1e;e5b1f;f4b1g;g3b1h;h2o1.");
            x.set(3, 7);
            x.set(4, 7);
            due("lost(0)", x.lost(0), 7);
            swear(x, 7, 254);
            x.set(5, 254);
            due("lost(0), SWORN so", x.lost(0), 0);
        });
        test(15, "in place of those that are: what is SWORN does not count", () -> {
            CrownlessDays x = neverCrowned("ab1", "a9o1b;b0o1.");
            x.set(5, 2);
            swear(x, 1, 2);
            x.set(5, 255);
            swear(x, 1, 2);
            x.set(5, 1);
            swear(x, 1, 2);
        });
        test(15, "what is SWORN stays", () -> {
            CrownlessDays x = neverCrowned("ab1", "a9o1b;b0o1.");
            x.set(5, 5);
            swear(x, 1, 2);
            due("count(6)", x.count(6), 5);
            due("lost(0)", x.lost(0), 1);
        });
        test(15, "what below 0 is BAD", () -> {
            refused("swear(-1)", BAD, x -> x.swear(-1));
            refused("swear(least)", BAD, x -> x.swear(LEAST));
        });
        test(15, "what above 1 is BAD", () -> {
            refused("swear(2)", BAD, x -> x.swear(2));
            refused("swear(most)", BAD, x -> x.swear(MOST));
        });
        Check.end();
    }

    private static void swear(CrownlessDays x, int towns, int bits) {
        due("swear(0)", x.swear(0), towns);
        due("swear(1)", x.swear(1), bits);
    }
}
