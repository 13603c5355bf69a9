/** fits: for how many days it may have been hidden, in which town he may have died. */
public final class Promise21Test extends Promise {
    public static void main(String[] args) {
        test(21, "nothing SEEN: all 10 DAYS, all 8 TOWNS", () -> {
            fits(new CrownlessDays(), 1023, 255);
            CrownlessDays x = used();
            x.forget();
            fits(x, 1023, 255);
        });
        test(21, "none fits: no bit", () -> {
            CrownlessDays x = neverCrowned("ab2", "a9o1b;b0o1.");
            x.seen(1, 1);
            fits(x, 0, 0);
        });
        test(21, "one that there is not: not", () -> {
            CrownlessDays x = neverCrowned("ab2", "a9o1b;b0o1.");
            x.seen(2, 0);
            x.seen(7, 0);
            fits(x, 1023, 255);
            x.seen(2, 1);
            fits(x, 0, 0);
        });
        test(21, "one that there was not, then is", () -> {
            CrownlessDays x = neverCrowned("", "a0o1.");
            x.seen(1, 1);
            fits(x, 0, 0);
            typeIn(x, 1, ";a9o1a");
            fits(x, 1023, 1);
        });
        test(21, "one that there was, then is not", () -> {
            CrownlessDays x = neverCrowned("", "a0o1.;a9o1a");
            x.seen(1, 1);
            fits(x, 1023, 1);
            for (int i = 0; i < 6; i++) {
                x.undo(1);
            }
            fits(x, 0, 0);
        });
        test(21, "WON: where its TOWN HEARS; not WON: elsewhere", () -> {
            CrownlessDays x = neverCrowned("ab2", "a9o1b;b0o1.");
            x.seen(0, 1);
            fits(x, 1023, 3);
            x.forget();
            x.seen(0, 0);
            fits(x, 0, 252);
        });
        test(21, "BEATEN and TOO LATE are not WON", () -> {
            CrownlessDays x = neverCrowned("", "a2o1b;a0o1.");
            x.seen(0, 0);
            fits(x, 1023, 255);
            CrownlessDays y = neverCrowned("", "a9o1b;a0o1.");
            y.set(5, 1);
            y.seen(0, 0);
            fits(y, 1023, 255);
        });
        test(21, "all that was SEEN, the first and the last", () -> {
            CrownlessDays x = neverCrowned("", "a9o1c;b9o1d;a0o1.;b0o1.");
            x.seen(0, 1);
            due("fits(1)", x.fits(1), 1);
            x.seen(1, 1);
            due("fits(1)", x.fits(1), 0);
            x.forget();
            x.seen(0, 0);
            due("fits(1)", x.fits(1), 254);
            x.seen(1, 0);
            due("fits(1)", x.fits(1), 252);
        });
        test(21, "one SEEN to have WON and not: none fits", () -> {
            CrownlessDays x = neverCrowned("", "a9o1b;a0o1.");
            x.seen(0, 1);
            x.seen(0, 0);
            fits(x, 0, 0);
        });
        test(21, "TOWN 7 has bit 7", () -> {
            CrownlessDays x = with("", "h9o1b;h0o1.");
            x.seen(0, 1);
            due("fits(1)", x.fits(1), 128);
        });
        test(21, "in place of what is told, which stays", () -> {
            CrownlessDays x = neverCrowned("ab2", "a9o1b;b0o1.");
            x.seen(0, 1);
            x.set(0, 4);
            x.set(2, 9);
            fits(x, 0, 3);
            due("set(0, 0)", x.set(0, 0), 4);
            due("set(2, 0)", x.set(2, 0), 9);
        });
        test(21, "what below 0 is BAD", () -> {
            refused("fits(-1)", BAD, x -> x.fits(-1));
            refused("fits(least)", BAD, x -> x.fits(LEAST));
        });
        test(21, "what above 1 is BAD", () -> {
            refused("fits(2)", BAD, x -> x.fits(2));
            refused("fits(most)", BAD, x -> x.fits(MOST));
        });
        Check.end();
    }

    private static void fits(CrownlessDays x, int days, int towns) {
        due("fits(0)", x.fits(0), days);
        due("fits(1)", x.fits(1), towns);
    }
}
