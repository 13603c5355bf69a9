/** write: when towns hear, or when there is law again, comes to a sheet. */
public final class Promise30Test extends Promise {
    public static void main(String[] args) {
        test(30, "8 at most: a ninth item stays", () -> {
            CrownlessDays x = sheetOf(INTS, 9);
            due("write(0, 0)", x.write(0, 0), 8);
            items(x, 0, INTS, 0, 2, 5, NONE, NONE, NONE, NONE, NONE, 77);
            due("write(1, 0)", x.write(1, 0), 8);
            items(x, 0, INTS, 1, 3, 6, NONE, NONE, NONE, NONE, NONE, 77);
        });
        test(30, "60 items: 8", () -> {
            CrownlessDays x = new CrownlessDays();
            x.sheet(0, BYTES, 60);
            due("write(0, 0)", x.write(0, 0), 8);
            due("get(0, 0, 8)", x.get(0, BYTES, 8), 0);
        });
        test(30, "as many as there are items: 8, 7, 1", () -> {
            CrownlessDays x = sheetOf(INTS, 8);
            due("write to 8", x.write(0, 0), 8);
            due("get(0, 2, 7)", x.get(0, INTS, 7), NONE);
            CrownlessDays y = sheetOf(INTS, 7);
            due("write to 7", y.write(0, 0), 7);
            due("get(0, 2, 6)", y.get(0, INTS, 6), NONE);
            CrownlessDays z = sheetOf(INTS, 1);
            due("write to 1", z.write(1, 0), 1);
            items(z, 0, INTS, 1);
        });
        test(30, "of no items none", () -> {
            CrownlessDays x = sheetOf(INTS, 0);
            due("write(0, 0)", x.write(0, 0), 0);
            due("write(1, 0)", x.write(1, 0), 0);
            due("count(8)", x.count(8), 0);
            due("lose(0)", x.lose(0), 0);
        });
        test(30, "NONE where it never HEARS, where LAW never is", () -> {
            for (int form = 0; form < 3; form++) {
                CrownlessDays x = sheetOf(form, 8);
                x.set(3, 7);
                x.write(0, 0);
                items(x, 0, form, 0, 2, 5, NONE, NONE, NONE, NONE, NONE);
                x.write(1, 0);
                items(x, 0, form, NONE, NONE, NONE, NONE, NONE, NONE, NONE, NONE);
            }
        });
        test(30, "a byte has the lowest bits of a DAY above 127", () -> {
            CrownlessDays x = late(BYTES), y = late(SHORTS);
            due("hears(7, 1)", x.hears(7, 1), 208);
            items(x, 0, BYTES, 145 - 256, 154 - 256, 163 - 256, 172 - 256, 181 - 256, 190 - 256, 199 - 256, 208 - 256);
            items(y, 0, SHORTS, 145, 154, 163, 172, 181, 190, 199, 208);
        });
        test(30, "SHEETS 0 and 3", () -> {
            CrownlessDays x = new CrownlessDays();
            x.sheet(3, INTS, 2);
            due("write(1, 3)", x.write(1, 3), 2);
            items(x, 3, INTS, 1, NONE);
            due("write(1, 0)", x.write(1, 0), NULL);
        });
        refusals();
        Check.end();
    }

    private static CrownlessDays sheetOf(int form, int n) {
        CrownlessDays x = with("ab2;bc3", "");
        x.sheet(0, form, n);
        for (int i = 0; i < n; i++) {
            x.lay(0, form, i, 77);
        }
        return x;
    }

    private static CrownlessDays late(int form) {
        CrownlessDays x = with(LONGEST, "");
        x.set(1, 9);
        x.set(2, 9);
        x.set(3, 7);
        x.sheet(0, form, 8);
        due("write(1, 0)", x.write(1, 0), 8);
        return x;
    }

    private static void refusals() {
        test(30, "what below 0 is BAD", () -> {
            refused("write(-1, 2)", BAD, x -> x.write(-1, 2));
            refused("write(least, 2)", BAD, x -> x.write(LEAST, 2));
        });
        test(30, "what above 1 is BAD", () -> {
            refused("write(2, 2)", BAD, x -> x.write(2, 2));
            refused("write(most, 2)", BAD, x -> x.write(MOST, 2));
        });
        test(30, "a SHEET below 0 is BAD", () -> {
            refused("write(0, -1)", BAD, x -> x.write(0, -1));
            refused("write(0, least)", BAD, x -> x.write(0, LEAST));
        });
        test(30, "a SHEET above 3 is BAD", () -> {
            refused("write(0, 4)", BAD, x -> x.write(0, 4));
            refused("write(0, most)", BAD, x -> x.write(0, MOST));
        });
        test(30, "NULL: the SHEET is LOST", () -> {
            found("write(0, 3)", NULL, x -> x.write(0, 3));
            found("write(1, 3)", NULL, x -> x.write(1, 3));
        });
        test(30, "BAD is ahead of NULL", () -> {
            refused("write(2, 3)", BAD, x -> x.write(2, 3));
            refused("write(-1, 3)", BAD, x -> x.write(-1, 3));
        });
    }
}
