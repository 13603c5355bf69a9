/** lose: a sheet is lost. */
public final class Promise26Test extends Promise {
    public static void main(String[] args) {
        test(26, "of 0 items 0, of 60 items 60", () -> {
            CrownlessDays x = new CrownlessDays();
            x.sheet(0, BYTES, 0);
            x.sheet(3, INTS, 60);
            due("lose(0)", x.lose(0), 0);
            due("lose(3)", x.lose(3), 60);
        });
        test(26, "it is LOST", () -> {
            CrownlessDays x = used();
            due("lose(1)", x.lose(1), 4);
            due("get(1, 1, 0)", x.get(1, SHORTS, 0), LEAST);
            due("count(8)", x.count(8), 1);
            due("lose(1) again", x.lose(1), NULL);
        });
        test(26, "the others stay", () -> {
            CrownlessDays x = used();
            x.lose(1);
            items(x, 0, BYTES, 1, -2, 3);
            items(x, 2, INTS, 10, 20, 30, 40, 50);
        });
        test(26, "NULL: it is LOST already", () -> {
            found("lose(3)", NULL, x -> x.lose(3));
            for (int s = 0; s < 4; s++) {
                CrownlessDays x = new CrownlessDays();
                due("lose(" + s + ") of a new one", x.lose(s), NULL);
                due("count(8)", x.count(8), 1);
            }
        });
        test(26, "a SHEET below 0 is BAD", () -> {
            refused("lose(-1)", BAD, x -> x.lose(-1));
            refused("lose(least)", BAD, x -> x.lose(LEAST));
        });
        test(26, "a SHEET above 3 is BAD", () -> {
            refused("lose(4)", BAD, x -> x.lose(4));
            refused("lose(most)", BAD, x -> x.lose(MOST));
        });
        Check.end();
    }
}
