/** lost: how many win, and the last day on which one does. */
public final class Promise14Test extends Promise {
    public static void main(String[] args) {
        test(14, "nobody WINS: 0, and LAST is NONE", () -> {
            lost(new CrownlessDays(), 0, NONE);
            lost(neverCrowned("", "a2o1b;a0o1."), 0, NONE);
            lost(with("ab3", "a9c1b;b0o1."), 0, NONE);
        });
        test(14, "LAST may be DAY 0", () -> lost(neverCrowned("", "a9o1b;a0o1."), 1, 0));
        test(14, "LAST is the last DAY, not the last PERSON's", () -> {
            lost(neverCrowned("ab3", "a9o1c;a9o1d;b0o1.;a0o1."), 2, 3);
            lost(neverCrowned("ab3", "a9o1d;a9o1c;b0o1.;a0o1."), 2, 3);
        });
        test(14, "who is BEATEN or TOO LATE does not count, be it later", () -> {
            CrownlessDays x = neverCrowned("ab3", "a9o1d;a0o1c;b0o1.;a0o1.");
            lost(x, 1, 0);
            CrownlessDays y = neverCrowned("ab3", "a9o1d;a9o1c;b0o1.;a0o1.");
            y.set(5, 2);
            lost(y, 1, 0);
        });
        test(14, "who is undone does not count", () -> {
            CrownlessDays x = neverCrowned("", "a0o1.;a9b4a");
            lost(x, 1, 0);
            for (int i = 0; i < 6; i++) {
                x.undo(1);
            }
            lost(x, 0, NONE);
            due("count(5)", x.count(5), 0);
        });
        test(14, "7 of 8 WIN at the most", () ->
                lost(neverCrowned("", "a9o1h;a9o1h;a9o1h;a9o1h;a9o1h;a9o1h;a9c1h;a0o1."), 7, 1));
        test(14, "144 is the latest LAST", () -> {
            CrownlessDays x = with(LONGEST, "h9o5b;a0o1.");
            x.set(1, 9);
            x.set(2, 9);
            x.set(3, 7);
            lost(x, 1, 144);
        });
        test(14, "what below 0 is BAD", () -> {
            refused("lost(-1)", BAD, x -> x.lost(-1));
            refused("lost(least)", BAD, x -> x.lost(LEAST));
        });
        test(14, "what above 1 is BAD", () -> {
            refused("lost(2)", BAD, x -> x.lost(2));
            refused("lost(most)", BAD, x -> x.lost(MOST));
        });
        Check.end();
    }

    private static void lost(CrownlessDays x, int wins, int last) {
        due("lost(0)", x.lost(0), wins);
        due("lost(1)", x.lost(1), last);
    }
}
