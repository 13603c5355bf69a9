/** copy: items of a sheet come to a sheet. */
public final class Promise29Test extends Promise {
    public static void main(String[] args) {
        copies();
        ontoItself();
        refusals();
        findings();
        order();
        Check.end();
    }

    /** Sheets 0 and 1 of one form, with 5 and 3 items. */
    private static CrownlessDays two(int form) {
        CrownlessDays x = new CrownlessDays();
        layIn(x, 0, form, 1, 2, 3, 4, 5);
        layIn(x, 1, form, 7, 8, 9);
        return x;
    }

    private static void copies() {
        test(29, "all that there are, of each FORM", () -> {
            for (int form = 0; form < 3; form++) {
                CrownlessDays x = two(form);
                due("copy(1, 0, 0, 2, 3)", x.copy(1, 0, 0, 2, 3), 1);
                items(x, 0, form, 1, 2, 7, 8, 9);
                items(x, 1, form, 7, 8, 9);
            }
        });
        test(29, "the last one", () -> {
            CrownlessDays x = two(INTS);
            due("copy(0, 4, 1, 2, 1)", x.copy(0, 4, 1, 2, 1), 1);
            items(x, 1, INTS, 7, 8, 5);
        });
        test(29, "none, at the end too", () -> {
            CrownlessDays x = two(INTS);
            due("copy(0, 0, 1, 0, 0)", x.copy(0, 0, 1, 0, 0), 1);
            due("copy(0, 5, 1, 3, 0)", x.copy(0, 5, 1, 3, 0), 1);
            items(x, 1, INTS, 7, 8, 9);
            due("count(8)", x.count(8), 0);
        });
        test(29, "none of SHEETS of no items", () -> {
            CrownlessDays x = new CrownlessDays();
            x.sheet(0, BYTES, 0);
            x.sheet(1, BYTES, 0);
            due("copy(0, 0, 1, 0, 0)", x.copy(0, 0, 1, 0, 0), 1);
            due("copy(0, 0, 1, 0, 1)", x.copy(0, 0, 1, 0, 1), INDEX);
        });
        test(29, "60 items", () -> {
            CrownlessDays x = new CrownlessDays();
            x.sheet(2, SHORTS, 60);
            x.sheet(3, SHORTS, 60);
            x.lay(2, SHORTS, 59, 9);
            due("copy(2, 0, 3, 0, 60)", x.copy(2, 0, 3, 0, 60), 1);
            due("get(3, 1, 59)", x.get(3, SHORTS, 59), 9);
            due("copy(2, 0, 3, 0, 61)", x.copy(2, 0, 3, 0, 61), INDEX);
        });
    }

    private static void ontoItself() {
        test(29, "perhaps s, as they were: upwards", () -> {
            CrownlessDays x = two(INTS);
            due("copy(0, 0, 0, 1, 4)", x.copy(0, 0, 0, 1, 4), 1);
            items(x, 0, INTS, 1, 1, 2, 3, 4);
        });
        test(29, "perhaps s, as they were: downwards", () -> {
            CrownlessDays x = two(INTS);
            due("copy(0, 1, 0, 0, 4)", x.copy(0, 1, 0, 0, 4), 1);
            items(x, 0, INTS, 2, 3, 4, 5, 5);
        });
        test(29, "perhaps s, in its own place", () -> {
            CrownlessDays x = two(INTS);
            due("copy(0, 0, 0, 0, 5)", x.copy(0, 0, 0, 0, 5), 1);
            items(x, 0, INTS, 1, 2, 3, 4, 5);
        });
    }

    private static void refusals() {
        test(29, "a SHEET below 0 is BAD", () -> {
            refused("copy(-1, 0, 0, 0, 1)", BAD, x -> x.copy(-1, 0, 0, 0, 1));
            refused("copy(0, 0, -1, 0, 1)", BAD, x -> x.copy(0, 0, -1, 0, 1));
            refused("copy(least, 0, 0, 0, 1)", BAD, x -> x.copy(LEAST, 0, 0, 0, 1));
            refused("copy(0, 0, least, 0, 1)", BAD, x -> x.copy(0, 0, LEAST, 0, 1));
        });
        test(29, "a SHEET above 3 is BAD", () -> {
            refused("copy(4, 0, 0, 0, 1)", BAD, x -> x.copy(4, 0, 0, 0, 1));
            refused("copy(0, 0, 4, 0, 1)", BAD, x -> x.copy(0, 0, 4, 0, 1));
            refused("copy(most, 0, 0, 0, 1)", BAD, x -> x.copy(MOST, 0, 0, 0, 1));
            refused("copy(0, 0, most, 0, 1)", BAD, x -> x.copy(0, 0, MOST, 0, 1));
        });
    }

    private static void findings() {
        test(29, "NULL: s is LOST", () -> found("copy(3, 0, 0, 0, 1)", NULL, x -> x.copy(3, 0, 0, 0, 1)));
        test(29, "NULL: t is LOST", () -> found("copy(0, 0, 3, 0, 1)", NULL, x -> x.copy(0, 0, 3, 0, 1)));
        test(29, "NULL: both are LOST", () -> found("copy(3, 0, 3, 0, 0)", NULL, x -> x.copy(3, 0, 3, 0, 0)));
        test(29, "STORE: unlike FORMS, be it of none", () -> {
            found("copy(0, 0, 1, 0, 1)", STORE, x -> x.copy(0, 0, 1, 0, 1));
            found("copy(1, 0, 2, 0, 1)", STORE, x -> x.copy(1, 0, 2, 0, 1));
            found("copy(2, 0, 0, 0, 0)", STORE, x -> x.copy(2, 0, 0, 0, 0));
        });
        test(29, "INDEX: i below 0", () -> {
            found("copy(2, -1, 2, 0, 1)", INDEX, x -> x.copy(2, -1, 2, 0, 1));
            found("copy(2, -1, 2, 0, 0)", INDEX, x -> x.copy(2, -1, 2, 0, 0));
            found("copy(2, least, 2, 0, 1)", INDEX, x -> x.copy(2, LEAST, 2, 0, 1));
        });
        test(29, "INDEX: j below 0", () -> {
            found("copy(2, 0, 2, -1, 1)", INDEX, x -> x.copy(2, 0, 2, -1, 1));
            found("copy(2, 0, 2, -1, 0)", INDEX, x -> x.copy(2, 0, 2, -1, 0));
            found("copy(2, 0, 2, least, 1)", INDEX, x -> x.copy(2, 0, 2, LEAST, 1));
        });
        test(29, "INDEX: n below 0", () -> {
            found("copy(2, 1, 2, 1, -1)", INDEX, x -> x.copy(2, 1, 2, 1, -1));
            found("copy(2, 0, 2, 0, least)", INDEX, x -> x.copy(2, 0, 2, 0, LEAST));
        });
        test(29, "INDEX: not so many in s", () -> {
            found("copy(2, 3, 2, 0, 3)", INDEX, x -> x.copy(2, 3, 2, 0, 3));
            found("copy(2, 5, 2, 0, 1)", INDEX, x -> x.copy(2, 5, 2, 0, 1));
            found("copy(2, 6, 2, 0, 0)", INDEX, x -> x.copy(2, 6, 2, 0, 0));
            found("copy(2, most, 2, 0, 1)", INDEX, x -> x.copy(2, MOST, 2, 0, 1));
        });
        test(29, "INDEX: not so many in t", () -> {
            found("copy(2, 0, 2, 3, 3)", INDEX, x -> x.copy(2, 0, 2, 3, 3));
            found("copy(2, 0, 2, 5, 1)", INDEX, x -> x.copy(2, 0, 2, 5, 1));
            found("copy(2, 0, 2, 6, 0)", INDEX, x -> x.copy(2, 0, 2, 6, 0));
            found("copy(2, 0, 2, most, 1)", INDEX, x -> x.copy(2, 0, 2, MOST, 1));
            CrownlessDays x = two(INTS);
            due("copy(0, 0, 1, 0, 4)", x.copy(0, 0, 1, 0, 4), INDEX);
            items(x, 1, INTS, 7, 8, 9);
        });
        test(29, "INDEX: sums that would wrap", () -> {
            found("copy(2, 1, 2, 0, most)", INDEX, x -> x.copy(2, 1, 2, 0, MOST));
            found("copy(2, 0, 2, 1, most)", INDEX, x -> x.copy(2, 0, 2, 1, MOST));
            found("copy(2, most, 2, most, most)", INDEX, x -> x.copy(2, MOST, 2, MOST, MOST));
        });
    }

    private static void order() {
        test(29, "BAD is ahead of NULL", () -> {
            refused("copy(3, 0, 4, 0, 1)", BAD, x -> x.copy(3, 0, 4, 0, 1));
            refused("copy(4, 0, 3, 0, 1)", BAD, x -> x.copy(4, 0, 3, 0, 1));
        });
        test(29, "NULL is ahead of INDEX", () -> {
            found("copy(3, -1, 0, 0, 1)", NULL, x -> x.copy(3, -1, 0, 0, 1));
            found("copy(0, -1, 3, 0, 1)", NULL, x -> x.copy(0, -1, 3, 0, 1));
        });
        test(29, "NULL is ahead of STORE", () -> {
            found("copy(1, 0, 3, 0, 1)", NULL, x -> x.copy(1, 0, 3, 0, 1));
            found("copy(3, 0, 1, 0, 1)", NULL, x -> x.copy(3, 0, 1, 0, 1));
        });
        test(29, "STORE is ahead of INDEX", () -> {
            found("copy(0, -1, 1, 0, 1)", STORE, x -> x.copy(0, -1, 1, 0, 1));
            found("copy(0, 0, 1, 9, 1)", STORE, x -> x.copy(0, 0, 1, 9, 1));
            found("copy(0, 0, 1, 0, -1)", STORE, x -> x.copy(0, 0, 1, 0, -1));
        });
    }
}
