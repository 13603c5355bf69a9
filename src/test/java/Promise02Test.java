/** type: a byte comes behind a text. */
public final class Promise02Test extends Promise {
    public static void main(String[] args) {
        test(2, "the first byte makes 1", () -> {
            for (int text = 0; text < 2; text++) {
                due("type(" + text + ", 97)", new CrownlessDays().type(text, 97), 1);
            }
        });
        test(2, "a byte comes behind those that are there", () -> {
            CrownlessDays x = with("ab1", "");
            due("road(0, 0)", x.road(0, 0), 0);
            due("road(0, 1)", x.road(0, 1), 1);
            due("type(0, ';')", x.type(0, ';'), 4);
        });
        test(2, "byte 0 is the least", () -> due("type(0, 0)", new CrownlessDays().type(0, 0), 1));
        test(2, "byte 255 is the greatest", () -> due("type(0, 255)", new CrownlessDays().type(0, 255), 1));
        test(2, "a byte below 0 is BAD", () -> {
            for (int text = 0; text < 2; text++) {
                int t = text;
                refused("type(" + t + ", -1)", BAD, x -> x.type(t, -1));
                refused("type(" + t + ", least)", BAD, x -> x.type(t, LEAST));
                refused("type(" + t + ", ';' - 256)", BAD, x -> x.type(t, ';' - 256));
            }
        });
        test(2, "a byte above 255 is BAD", () -> {
            for (int text = 0; text < 2; text++) {
                int t = text;
                refused("type(" + t + ", 256)", BAD, x -> x.type(t, 256));
                refused("type(" + t + ", most)", BAD, x -> x.type(t, MOST));
                refused("type(" + t + ", ';' + 256)", BAD, x -> x.type(t, ';' + 256));
            }
        });
        test(2, "a text below 0 is BAD", () -> {
            refused("type(-1, 97)", BAD, x -> x.type(-1, 97));
            refused("type(least, 97)", BAD, x -> x.type(LEAST, 97));
        });
        test(2, "a text above 1 is BAD", () -> {
            refused("type(2, 97)", BAD, x -> x.type(2, 97));
            refused("type(most, 97)", BAD, x -> x.type(MOST, 97));
        });
        test(2, "ROADS are a text of up to 47 bytes", () -> fills(0));
        test(2, "PERSONS are a text of up to 47 bytes", () -> fills(1));
        test(2, "FULL leaves all as it was", () -> {
            refused("type(0, ';')", FULL, Promise::full, x -> x.type(0, ';'));
            refused("type(1, ';')", FULL, Promise::full, x -> x.type(1, ';'));
        });
        test(2, "BAD is ahead of FULL", () -> {
            refused("type(0, 256)", BAD, Promise::full, x -> x.type(0, 256));
            refused("type(1, -1)", BAD, Promise::full, x -> x.type(1, -1));
        });
        test(2, "one text FULL leaves room in the other", () -> {
            due("type(1, 97)", with(TWELVE_ROADS, "").type(1, 97), 1);
            due("type(0, 97)", with("", EIGHT_PERSONS).type(0, 97), 1);
        });
        test(2, "with the last byte undone there is room for one", () -> {
            CrownlessDays x = full();
            x.undo(0);
            due("type(0, 57)", x.type(0, '9'), 47);
            due("road(11, 2)", x.road(11, 2), 9);
            due("type(0, 57)", x.type(0, '9'), FULL);
        });
        Check.end();
    }

    private static void fills(int text) {
        CrownlessDays x = new CrownlessDays();
        for (int i = 1; i <= 47; i++) {
            due("byte " + i, x.type(text, 97), i);
        }
        due("byte 48", x.type(text, 97), FULL);
        due("bytes", x.count(2 + text), 47);
    }
}
