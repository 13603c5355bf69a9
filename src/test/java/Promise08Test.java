/** set: what is told of the death. */
public final class Promise08Test extends Promise {
    private static final String[] NAMES = {"where he DIED", "the DAY", "HIDDEN", "HEIR", "CROWN", "SWORN"};
    private static final int[] GREATEST = {7, 9, 9, 7, 7, 255};

    public static void main(String[] args) {
        for (int w = 0; w <= 5; w++) {
            int what = w, greatest = GREATEST[w];
            test(8, NAMES[what] + " is 0 to " + greatest, () -> {
                CrownlessDays x = new CrownlessDays();
                due("set(" + what + ", " + greatest + ")", x.set(what, greatest), 0);
                due("set(" + what + ", 0)", x.set(what, 0), greatest);
                due("set(" + what + ", 1)", x.set(what, 1), 0);
            });
            test(8, NAMES[what] + " below 0 is BAD", () -> {
                refused("set(" + what + ", -1)", BAD, x -> x.set(what, -1));
                refused("set(" + what + ", least)", BAD, x -> x.set(what, LEAST));
            });
            test(8, NAMES[what] + " above " + greatest + " is BAD", () -> {
                refused("set(" + what + ", " + (greatest + 1) + ")", BAD, x -> x.set(what, greatest + 1));
                refused("set(" + what + ", most)", BAD, x -> x.set(what, MOST));
            });
            test(8, NAMES[what] + ": it answers what it was, be it the same", () -> {
                CrownlessDays x = new CrownlessDays();
                x.set(what, 5);
                due("set(" + what + ", 5)", x.set(what, 5), 5);
                due("set(" + what + ", 2)", x.set(what, 2), 5);
            });
            test(8, NAMES[what] + " leaves the others", () -> {
                CrownlessDays x = new CrownlessDays();
                for (int other = 0; other <= 5; other++) {
                    x.set(other, other + 1);
                }
                x.set(what, 7);
                for (int other = 0; other <= 5; other++) {
                    due("set(" + other + ", 0)", x.set(other, 0), other == what ? 7 : other + 1);
                }
            });
        }
        test(8, "what below 0 is BAD", () -> {
            refused("set(-1, 0)", BAD, x -> x.set(-1, 0));
            refused("set(least, 0)", BAD, x -> x.set(LEAST, 0));
        });
        test(8, "what above 5 is BAD", () -> {
            refused("set(6, 0)", BAD, x -> x.set(6, 0));
            refused("set(most, 0)", BAD, x -> x.set(MOST, 0));
        });
        Check.end();
    }
}
