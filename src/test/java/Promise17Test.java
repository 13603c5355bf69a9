/** litter: how long it is to be hidden so that fewest win. */
public final class Promise17Test extends Promise {
    public static void main(String[] args) {
        test(17, "of a new object 0 DAYS, and nobody WINS", () -> litter(new CrownlessDays(), 0, 0));
        test(17, "of like ones the least: all DAYS move with HIDDEN, so 0", () -> {
            CrownlessDays x = with("ab3", "a9o1b;b0o1.;a9o1b");
            for (int hidden = 0; hidden <= 9; hidden++) {
                x.set(2, hidden);
                litter(x, 0, 2);
                due("lost(0)", x.lost(0), 2);
            }
        });
        test(17, "in place of what is told, which stays", () -> {
            CrownlessDays x = with("ab3", "a9o1b;b0o1.");
            x.set(2, 9);
            litter(x, 0, 1);
            due("hears(0, 0)", x.hears(0, 0), 9);
            due("set(2, 0)", x.set(2, 0), 9);
        });
        test(17, "the other things told stay in force", () -> {
            CrownlessDays x = with("ab3", "a9o1b;b0o1.;a9o1b");
            x.set(5, 2);
            litter(x, 0, 0);
            due("count(6)", x.count(6), 2);
            x.set(5, 0);
            x.set(0, 2);
            litter(x, 0, 0);
            due("set(0, 0)", x.set(0, 0), 2);
        });
        test(17, "7 of 8 WIN at the most", () ->
                litter(neverCrowned("", "a9o1h;a9o1h;a9o1h;a9o1h;a9o1h;a9o1h;a9c1h;a0o1."), 0, 7));
        test(17, "what below 0 is BAD", () -> {
            refused("litter(-1)", BAD, x -> x.litter(-1));
            refused("litter(least)", BAD, x -> x.litter(LEAST));
        });
        test(17, "what above 1 is BAD", () -> {
            refused("litter(2)", BAD, x -> x.litter(2));
            refused("litter(most)", BAD, x -> x.litter(MOST));
        });
        Check.end();
    }

    private static void litter(CrownlessDays x, int days, int wins) {
        due("litter(0)", x.litter(0), days);
        due("litter(1)", x.litter(1), wins);
    }
}
