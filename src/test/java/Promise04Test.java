/** undo: the last byte of a text is undone. */
public final class Promise04Test extends Promise {
    public static void main(String[] args) {
        test(4, "of a full text 46 are left", () -> {
            CrownlessDays x = full();
            due("undo(0)", x.undo(0), 46);
            due("undo(1)", x.undo(1), 46);
        });
        test(4, "of one byte 0 are left", () -> {
            CrownlessDays x = with("a", "a");
            due("undo(0)", x.undo(0), 0);
            due("undo(1)", x.undo(1), 0);
        });
        test(4, "NOT: it is empty", () -> {
            refused("undo(0)", NOT, () -> emptied(0), x -> x.undo(0));
            refused("undo(1)", NOT, () -> emptied(1), x -> x.undo(1));
            due("undo(0) of a new one", new CrownlessDays().undo(0), NOT);
            due("undo(1) of a new one", new CrownlessDays().undo(1), NOT);
        });
        test(4, "BAD is ahead of NOT", () -> due("undo(2)", new CrownlessDays().undo(2), BAD));
        test(4, "it is the last byte that is undone", () -> {
            CrownlessDays x = with("ab1;cd2", "a1o2.;b3c4a");
            for (int i = 0; i < 4; i++) {
                x.undo(0);
            }
            due("road(0, 2)", x.road(0, 2), 1);
            due("road(1, 2)", x.road(1, 2), BAD);
            x.undo(1);
            x.type(1, '.');
            due("person(1, 4)", x.person(1, 4), NONE);
            due("person(1, 3)", x.person(1, 3), 4);
        });
        test(4, "ROADS undone: no WAY is left by them", () -> {
            CrownlessDays x = with("ab9;ab1", "");
            due("way(0, 1)", x.way(0, 1), 1);
            for (int i = 0; i < 4; i++) {
                x.undo(0);
            }
            due("way(0, 1)", x.way(0, 1), 9);
            x.undo(0);
            due("way(0, 1)", x.way(0, 1), NONE);
        });
        test(4, "a FAULT is undone with its byte", () -> {
            CrownlessDays x = with("ab1;", "");
            due("fault(0)", x.fault(0), 4);
            x.undo(0);
            due("fault(0)", x.fault(0), NONE);
            due("count(0)", x.count(0), 1);
        });
        test(4, "the other text stays", () -> {
            CrownlessDays x = full();
            x.undo(0);
            due("count(3)", x.count(3), 47);
            x.undo(1);
            due("count(2)", x.count(2), 46);
        });
        test(4, "a text below 0 is BAD", () -> {
            refused("undo(-1)", BAD, x -> x.undo(-1));
            refused("undo(least)", BAD, x -> x.undo(LEAST));
        });
        test(4, "a text above 1 is BAD", () -> {
            refused("undo(2)", BAD, x -> x.undo(2));
            refused("undo(most)", BAD, x -> x.undo(MOST));
        });
        Check.end();
    }

    private static CrownlessDays emptied(int text) {
        CrownlessDays x = used();
        x.wipe(text);
        return x;
    }
}
