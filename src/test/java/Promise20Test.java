/** read: seen from a sheet. */
public final class Promise20Test extends Promise {
    public static void main(String[] args) {
        test(20, "two items for each, as many as are whole", () -> {
            takes(0);
            takes(0, 7);
            takes(1, 7, 1);
            takes(1, 7, 1, 0);
            takes(2, 7, 1, 0, 0);
        });
        test(20, "PERSONS 0 to 7, WON 0 and 1", () -> takes(4, 0, 0, 0, 1, 7, 0, 7, 1));
        test(20, "up to the first PERSON below 0 or above 7", () -> {
            takes(1, 1, 1, -1, 0, 2, 0);
            takes(1, 1, 1, 8, 0, 2, 0);
            takes(0, LEAST, 0, 2, 0);
            takes(0, MOST, 0, 2, 0);
        });
        test(20, "up to the first WON below 0 or above 1", () -> {
            takes(1, 1, 1, 2, -1, 2, 0);
            takes(1, 1, 1, 2, 2, 2, 0);
            takes(0, 0, LEAST, 2, 0);
            takes(0, 0, MOST, 2, 0);
        });
        test(20, "8 at most: of 30 the first 8", () -> {
            CrownlessDays x = new CrownlessDays();
            x.sheet(0, INTS, 60);
            x.lay(0, INTS, 17, 1);
            due("read(0)", x.read(0), 8);
            due("count(7)", x.count(7), 8);
            due("fits(0), the ninth is not among them", x.fits(0), 1023);
            CrownlessDays y = new CrownlessDays();
            y.sheet(0, INTS, 60);
            y.lay(0, INTS, 15, 1);
            due("read(0)", y.read(0), 8);
            due("fits(0), the eighth is", y.fits(0), 0);
        });
        test(20, "they come to those that were SEEN, as long as there is room", () -> {
            CrownlessDays x = new CrownlessDays();
            for (int i = 0; i < 6; i++) {
                x.seen(0, 0);
            }
            layIn(x, 0, INTS, 1, 0, 2, 0, 3, 1);
            due("read(0)", x.read(0), 2);
            due("count(7)", x.count(7), 8);
            due("fits(0)", x.fits(0), 1023);
            due("read(0) with no room", x.read(0), 0);
            due("count(7)", x.count(7), 8);
        });
        test(20, "in their order: PERSON, then WON", () -> {
            CrownlessDays x = neverCrowned("", "a9o1b;a0o1.");
            layIn(x, 0, INTS, 0, 1, 1, 0);
            due("read(0)", x.read(0), 2);
            due("fits(0)", x.fits(0), 1023);
        });
        test(20, "a SHEET of each FORM", () -> {
            for (int form = 0; form < 3; form++) {
                CrownlessDays x = new CrownlessDays();
                layIn(x, form, form, 7, 1, 0, 0);
                due("read of form " + form, x.read(form), 2);
            }
        });
        test(20, "the last SHEET", () -> {
            CrownlessDays x = new CrownlessDays();
            layIn(x, 3, BYTES, 7, 1);
            due("read(3)", x.read(3), 1);
        });
        test(20, "the SHEET and the FINDING stay", () -> {
            CrownlessDays x = used();
            due("read(1)", x.read(1), 2);
            items(x, 1, SHORTS, 0, 1, 7, 0);
            due("read(0)", x.read(0), 0);
            due("count(8)", x.count(8), 5);
        });
        test(20, "a SHEET below 0 is BAD", () -> {
            refused("read(-1)", BAD, x -> x.read(-1));
            refused("read(least)", BAD, x -> x.read(LEAST));
        });
        test(20, "a SHEET above 3 is BAD", () -> {
            refused("read(4)", BAD, x -> x.read(4));
            refused("read(most)", BAD, x -> x.read(MOST));
        });
        test(20, "NULL: the SHEET is LOST", () -> {
            found("read(3)", NULL, x -> x.read(3));
            CrownlessDays x = new CrownlessDays();
            for (int s = 0; s < 4; s++) {
                due("read(" + s + ") of a new one", x.read(s), NULL);
            }
        });
        test(20, "NULL though nothing could be SEEN any more", () -> {
            CrownlessDays x = full();
            due("read(3)", x.read(3), NULL);
        });
        Check.end();
    }

    private static void takes(int n, int... items) {
        CrownlessDays x = new CrownlessDays();
        layIn(x, 0, INTS, items);
        due("read(0) of " + java.util.Arrays.toString(items), x.read(0), n);
        due("count(7)", x.count(7), n);
    }
}
