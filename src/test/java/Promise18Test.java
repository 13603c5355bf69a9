/** seen: a person won, or not. */
public final class Promise18Test extends Promise {
    public static void main(String[] args) {
        test(18, "PERSONS 0 to 7, be there such a one or not", () -> {
            CrownlessDays x = new CrownlessDays();
            due("seen(0, 0)", x.seen(0, 0), 1);
            due("seen(7, 0)", x.seen(7, 0), 2);
        });
        test(18, "WON 1, or not 0", () -> {
            CrownlessDays x = neverCrowned("", "a9o1b;a0o1.");
            due("seen(0, 1)", x.seen(0, 1), 1);
            due("fits(0)", x.fits(0), 1023);
            x.forget();
            due("seen(0, 0)", x.seen(0, 0), 1);
            due("fits(0)", x.fits(0), 0);
        });
        test(18, "a PERSON below 0 is BAD", () -> {
            refused("seen(-1, 0)", BAD, x -> x.seen(-1, 0));
            refused("seen(least, 1)", BAD, x -> x.seen(LEAST, 1));
        });
        test(18, "a PERSON above 7 is BAD", () -> {
            refused("seen(8, 0)", BAD, x -> x.seen(8, 0));
            refused("seen(most, 1)", BAD, x -> x.seen(MOST, 1));
        });
        test(18, "WON below 0 is BAD", () -> {
            refused("seen(0, -1)", BAD, x -> x.seen(0, -1));
            refused("seen(0, least)", BAD, x -> x.seen(0, LEAST));
        });
        test(18, "WON above 1 is BAD", () -> {
            refused("seen(0, 2)", BAD, x -> x.seen(0, 2));
            refused("seen(0, most)", BAD, x -> x.seen(0, MOST));
        });
        test(18, "8 at most, like ones too", () -> {
            CrownlessDays x = new CrownlessDays();
            for (int i = 1; i <= 8; i++) {
                due("seen " + i, x.seen(3, 0), i);
            }
            due("seen 9", x.seen(3, 0), FULL);
            due("count(7)", x.count(7), 8);
        });
        test(18, "the 8th counts, FULL does not", () -> {
            CrownlessDays x = new CrownlessDays();
            for (int i = 1; i <= 7; i++) {
                x.seen(0, 0);
            }
            due("fits(0) of 7", x.fits(0), 1023);
            x.seen(0, 1);
            due("fits(0) of 8", x.fits(0), 0);
            refused("seen(0, 1)", FULL, Promise::full, y -> y.seen(0, 1));
        });
        test(18, "BAD is ahead of FULL", () -> {
            refused("seen(8, 0)", BAD, Promise::full, x -> x.seen(8, 0));
            refused("seen(0, 2)", BAD, Promise::full, x -> x.seen(0, 2));
        });
        test(18, "forgotten, there is room again", () -> {
            CrownlessDays x = full();
            x.forget();
            due("seen(0, 0)", x.seen(0, 0), 1);
        });
        Check.end();
    }
}
