/** reigns: how many win, and how many days are without law, in reigns by a seed. */
public final class Promise24Test extends Promise {
    /** Town t lies t days from a; the coward at a wins if the heir's town lies farther from a than where he died. */
    private static final String CHAIN = "ab1;bc1;cd1;de1;ef1;fg1;gh1";
    private static final String COWARD = "a9c1b;a0o1.";

    public static void main(String[] args) {
        test(24, "1 of them is the least", () -> {
            // By seed 0 the first lots are 0, 4, 6; by seed 1 they are 6, 6, 3.
            reigns(0, 1, 1, 9, 9);
            reigns(1, 1, 0, 1, 13);
        });
        test(24, "the SEED goes on from one to the next", () -> {
            // By seed 0 the next lots are 5, 2, 5; by seed 1 they are 3, 3, 5.
            reigns(0, 2, 1, 10, 20);
            reigns(1, 2, 0, 2, 20);
        });
        test(24, "20 of them are the most", () -> {
            reigns(0, 19, 11, 93, 193);
            reigns(0, 20, 11, 94, 206);
            reigns(1, 20, 9, 78, 224);
        });
        test(24, "SEEDS of any sign, as ints that wrap", () -> {
            reigns(-1, 20, 6, 72, 198);
            reigns(MOST, 20, 6, 72, 198);
            reigns(LEAST, 20, 11, 94, 206);
            reigns(65536, 20, 10, 80, 248);
        });
        test(24, "DAYS without LAW for ever are 0", () -> {
            // By seed -1 he dies at a in the third, tenth and eighteenth with the heir elsewhere, in the 19th with him.
            CrownlessDays x = new CrownlessDays();
            due("reigns(-1, 18, 0)", x.reigns(-1, 18, 0), 0);
            due("reigns(-1, 19, 0)", x.reigns(-1, 19, 0), 1);
            due("reigns(-1, 20, 0)", x.reigns(-1, 20, 0), 1);
        });
        test(24, "DAY, CROWN and SWORN are as told", () -> {
            CrownlessDays x = with(CHAIN, COWARD);
            x.set(1, 9);
            due("DAY", x.reigns(0, 1, 0), 9);
            x.set(4, 7);
            due("CROWN", x.reigns(0, 1, 0), 15);
            due("CROWN", x.reigns(0, 1, NONE), 1);
            x.set(5, 1);
            due("SWORN", x.reigns(0, 20, NONE), 0);
        });
        test(24, "where he DIED, HIDDEN and HEIR as told do not count, and stay", () -> {
            CrownlessDays x = with(CHAIN, COWARD);
            x.set(0, 7);
            x.set(2, 9);
            x.set(3, 5);
            due("reigns(0, 20, 0)", x.reigns(0, 20, 0), 94);
            due("reigns(0, 20, NONE)", x.reigns(0, 20, NONE), 11);
            due("set(0, 0)", x.set(0, 0), 7);
            due("set(2, 0)", x.set(2, 0), 9);
            due("set(3, 0)", x.set(3, 0), 5);
        });
        test(24, "the SEED is not kept", () -> {
            CrownlessDays x = with(CHAIN, COWARD);
            due("reigns(0, 20, 7)", x.reigns(0, 20, 7), 206);
            due("reigns(0, 20, 7) again", x.reigns(0, 20, 7), 206);
        });
        refusals();
        Check.end();
    }

    private static void reigns(int seed, int n, int wins, int daysAtA, int daysAtH) {
        CrownlessDays x = with(CHAIN, COWARD);
        String call = "reigns(" + seed + ", " + n;
        due(call + ", NONE)", x.reigns(seed, n, NONE), wins);
        due(call + ", 0)", x.reigns(seed, n, 0), daysAtA);
        due(call + ", 7)", x.reigns(seed, n, 7), daysAtH);
    }

    private static void refusals() {
        test(24, "fewer than 1 is BAD", () -> {
            refused("reigns(0, 0, 0)", BAD, x -> x.reigns(0, 0, 0));
            refused("reigns(0, 0, NONE)", BAD, x -> x.reigns(0, 0, NONE));
            refused("reigns(0, -1, 0)", BAD, x -> x.reigns(0, -1, 0));
            refused("reigns(0, least, 0)", BAD, x -> x.reigns(0, LEAST, 0));
        });
        test(24, "more than 20 is BAD", () -> {
            refused("reigns(0, 21, 0)", BAD, x -> x.reigns(0, 21, 0));
            refused("reigns(0, 21, NONE)", BAD, x -> x.reigns(0, 21, NONE));
            refused("reigns(0, most, 0)", BAD, x -> x.reigns(0, MOST, 0));
        });
        test(24, "a TOWN below NONE is BAD", () -> {
            refused("reigns(0, 1, -2)", BAD, x -> x.reigns(0, 1, -2));
            refused("reigns(0, 1, least)", BAD, x -> x.reigns(0, 1, LEAST));
        });
        test(24, "a TOWN above 7 is BAD", () -> {
            refused("reigns(0, 1, 8)", BAD, x -> x.reigns(0, 1, 8));
            refused("reigns(0, 1, most)", BAD, x -> x.reigns(0, 1, MOST));
        });
    }
}
