/** place: where to crown him so that least is lost. */
public final class Promise16Test extends Promise {
    public static void main(String[] args) {
        test(16, "of a new object TOWN 0, and nobody WINS", () -> place(new CrownlessDays(), 0, 0));
        test(16, "the PLACE by which fewest WIN", () -> {
            CrownlessDays x = with("ab3;ah9", "a9c1b;b0o1.");
            x.set(4, 7);
            due("lost(0)", x.lost(0), 1);
            place(x, 0, 0);
        });
        test(16, "of like ones by which he is CROWNED soonest", () -> {
            CrownlessDays x = with("ab1;bc1", "");
            x.set(3, 2);
            place(x, 2, 0);
            x.set(3, 1);
            place(x, 1, 0);
        });
        test(16, "never is later than any", () -> {
            CrownlessDays x = with("ah9", "");
            x.set(0, 7);
            x.set(3, 7);
            place(x, 7, 0);
            CrownlessDays y = with("", "");
            y.set(0, 7);
            y.set(3, 7);
            due("crowned() at a", y.crowned(), NONE);
            place(y, 7, 0);
        });
        test(16, "of like ones the least: never by any, so TOWN 0", () -> {
            CrownlessDays x = neverCrowned("ab1", "a9o1b;b0o1.");
            x.set(4, 5);
            place(x, 0, 1);
        });
        test(16, "in place of its own, which stays", () -> {
            CrownlessDays x = with("ab3;ah9", "a9c1b;b0o1.");
            x.set(4, 7);
            place(x, 0, 0);
            due("crowned()", x.crowned(), 10);
            due("set(4, 0)", x.set(4, 0), 7);
        });
        test(16, "they WIN by any PLACE: as many", () -> place(with("ab3", "a9o1b;b0o1.;a9o1b"), 0, 2));
        test(16, "what is SWORN stays in force", () -> {
            CrownlessDays x = with("ab3", "a9o1b;b0o1.;a9o1b");
            x.set(5, 2);
            place(x, 0, 0);
            due("count(6)", x.count(6), 2);
        });
        test(16, "what below 0 is BAD", () -> {
            refused("place(-1)", BAD, x -> x.place(-1));
            refused("place(least)", BAD, x -> x.place(LEAST));
        });
        test(16, "what above 1 is BAD", () -> {
            refused("place(2)", BAD, x -> x.place(2));
            refused("place(most)", BAD, x -> x.place(MOST));
        });
        Check.end();
    }

    private static void place(CrownlessDays x, int town, int wins) {
        due("place(0)", x.place(0), town);
        due("place(1)", x.place(1), wins);
    }
}
