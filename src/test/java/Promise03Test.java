/** wipe: a text is empty. */
public final class Promise03Test extends Promise {
    public static void main(String[] args) {
        test(3, "an empty one had 0 bytes", () -> {
            CrownlessDays x = new CrownlessDays();
            due("wipe(0)", x.wipe(0), 0);
            due("wipe(1)", x.wipe(1), 0);
        });
        test(3, "a full one had 47 bytes", () -> {
            CrownlessDays x = full();
            due("wipe(0)", x.wipe(0), 47);
            due("wipe(1)", x.wipe(1), 47);
        });
        test(3, "one with a FAULT had all its bytes", () -> {
            CrownlessDays x = with("zz", "a1o1.;");
            due("wipe(0)", x.wipe(0), 2);
            due("wipe(1)", x.wipe(1), 6);
        });
        test(3, "a wiped text is empty", () -> {
            CrownlessDays x = full();
            for (int text = 0; text < 2; text++) {
                x.wipe(text);
                due("count", x.count(2 + text), 0);
                due("items", x.count(text), 0);
                due("fault", x.fault(text), NONE);
                due("undo", x.undo(text), NOT);
                due("wipe again", x.wipe(text), 0);
            }
            due("way(0, 1)", x.way(0, 1), NONE);
            due("road(0, 0)", x.road(0, 0), BAD);
            due("person(0, 0)", x.person(0, 0), BAD);
        });
        test(3, "a FAULT is wiped away", () -> {
            CrownlessDays x = with("zz", "");
            x.wipe(0);
            due("fault(0)", x.fault(0), NONE);
        });
        test(3, "the other text stays", () -> {
            CrownlessDays x = full(), y = full();
            x.wipe(0);
            due("count(1)", x.count(1), 8);
            due("count(3)", x.count(3), 47);
            y.wipe(1);
            due("count(0)", y.count(0), 12);
            due("count(2)", y.count(2), 47);
        });
        test(3, "a wiped text has room for 47 again", () -> {
            CrownlessDays x = full();
            x.wipe(0);
            typeIn(x, 0, TWELVE_ROADS);
            due("count(0)", x.count(0), 12);
        });
        test(3, "a text below 0 is BAD", () -> {
            refused("wipe(-1)", BAD, x -> x.wipe(-1));
            refused("wipe(least)", BAD, x -> x.wipe(LEAST));
        });
        test(3, "a text above 1 is BAD", () -> {
            refused("wipe(2)", BAD, x -> x.wipe(2));
            refused("wipe(most)", BAD, x -> x.wipe(MOST));
        });
        Check.end();
    }
}
