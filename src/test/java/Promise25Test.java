/** sheet: a sheet is a new row of a form. */
public final class Promise25Test extends Promise {
    public static void main(String[] args) {
        test(25, "SHEETS 0 to 3 of FORMS 0 to 2", () -> {
            for (int s = 0; s < 4; s++) {
                for (int form = 0; form < 3; form++) {
                    CrownlessDays x = new CrownlessDays();
                    due("sheet(" + s + ", " + form + ", 1)", x.sheet(s, form, 1), 1);
                    for (int f = 0; f < 3; f++) {
                        due("lay(" + s + ", " + f + ", 0, 5)", x.lay(s, f, 0, 5), f == form ? 1 : CAST);
                    }
                    for (int other = 0; other < 4; other++) {
                        due("lose(" + other + ")", x.lose(other), other == s ? 1 : NULL);
                    }
                }
            }
        });
        test(25, "0 items are the fewest", () -> {
            CrownlessDays x = new CrownlessDays();
            due("sheet(0, 0, 0)", x.sheet(0, BYTES, 0), 0);
            due("lay(0, 0, 0, 1)", x.lay(0, BYTES, 0, 1), INDEX);
            due("lose(0)", x.lose(0), 0);
        });
        test(25, "60 items are the most", () -> {
            for (int form = 0; form < 3; form++) {
                CrownlessDays x = new CrownlessDays();
                due("sheet(0, " + form + ", 60)", x.sheet(0, form, 60), 60);
                due("lay 59", x.lay(0, form, 59, 1), 1);
                due("lay 60", x.lay(0, form, 60, 1), INDEX);
                due("lose(0)", x.lose(0), 60);
            }
        });
        test(25, "items are 0 at first", () -> {
            CrownlessDays x = new CrownlessDays();
            x.sheet(1, INTS, 60);
            for (int i = 0; i < 60; i++) {
                due("get(1, 2, " + i + ")", x.get(1, INTS, i), 0);
            }
        });
        test(25, "a new row in place of one that was: 0 again", () -> {
            for (int form = 0; form < 3; form++) {
                CrownlessDays x = new CrownlessDays();
                layIn(x, 0, INTS, 7, 7, 7);
                x.sheet(0, form, 5);
                items(x, 0, form, 0, 0, 0, 0, 0);
                due("lose(0)", x.lose(0), 5);
            }
        });
        test(25, "a new row behind a LOST one: 0 again", () -> {
            CrownlessDays x = new CrownlessDays();
            layIn(x, 0, INTS, 7, 7, 7);
            x.lose(0);
            x.sheet(0, INTS, 3);
            items(x, 0, INTS, 0, 0, 0);
        });
        test(25, "a shorter row has no item of the longer one", () -> {
            CrownlessDays x = new CrownlessDays();
            x.sheet(0, INTS, 60);
            x.sheet(0, INTS, 2);
            due("lay(0, 2, 2, 1)", x.lay(0, INTS, 2, 1), INDEX);
        });
        refusals();
        Check.end();
    }

    private static void refusals() {
        test(25, "a SHEET below 0 is BAD", () -> {
            refused("sheet(-1, 0, 1)", BAD, x -> x.sheet(-1, 0, 1));
            refused("sheet(least, 0, 1)", BAD, x -> x.sheet(LEAST, 0, 1));
        });
        test(25, "a SHEET above 3 is BAD", () -> {
            refused("sheet(4, 0, 1)", BAD, x -> x.sheet(4, 0, 1));
            refused("sheet(most, 0, 1)", BAD, x -> x.sheet(MOST, 0, 1));
        });
        test(25, "a FORM below 0 is BAD", () -> {
            refused("sheet(0, -1, 1)", BAD, x -> x.sheet(0, -1, 1));
            refused("sheet(0, least, 1)", BAD, x -> x.sheet(0, LEAST, 1));
        });
        test(25, "a FORM above 2 is BAD", () -> {
            refused("sheet(0, 3, 1)", BAD, x -> x.sheet(0, 3, 1));
            refused("sheet(0, most, 1)", BAD, x -> x.sheet(0, MOST, 1));
        });
        test(25, "above 60 is BAD", () -> {
            refused("sheet(0, 0, 61)", BAD, x -> x.sheet(0, 0, 61));
            refused("sheet(0, 0, most)", BAD, x -> x.sheet(0, 0, MOST));
        });
        test(25, "SIZE: below 0", () -> {
            found("sheet(0, 0, -1)", SIZE, x -> x.sheet(0, 0, -1));
            found("sheet(0, 0, least)", SIZE, x -> x.sheet(0, 0, LEAST));
            CrownlessDays x = new CrownlessDays();
            due("sheet(3, 2, -1)", x.sheet(3, INTS, -1), SIZE);
            due("count(8)", x.count(8), 5);
            due("lose(3)", x.lose(3), NULL);
        });
        test(25, "BAD is ahead of SIZE", () -> {
            CrownlessDays x = new CrownlessDays();
            due("sheet(4, 0, -1)", x.sheet(4, 0, -1), BAD);
            due("sheet(-1, 0, -1)", x.sheet(-1, 0, -1), BAD);
            due("sheet(0, 3, -1)", x.sheet(0, 3, -1), BAD);
            due("sheet(0, -1, -1)", x.sheet(0, -1, -1), BAD);
            due("count(8)", x.count(8), 0);
        });
    }
}
