/** lay: an item becomes v. */
public final class Promise27Test extends Promise {
    public static void main(String[] args) {
        test(27, "the first item and the last", () -> {
            CrownlessDays x = used();
            due("lay(2, 2, 0, 7)", x.lay(2, INTS, 0, 7), 1);
            due("lay(2, 2, 4, 8)", x.lay(2, INTS, 4, 8), 1);
            items(x, 2, INTS, 7, 20, 30, 40, 8);
        });
        test(27, "a byte has the lowest 8 bits", () ->
                lowest(BYTES, new int[] {127, 128, 255, 256, -128, -129, LEAST, MOST},
                        new int[] {127, -128, -1, 0, -128, 127, 0, -1}));
        test(27, "a short has the lowest 16 bits", () ->
                lowest(SHORTS, new int[] {32767, 32768, 65535, 65536, -32768, -32769, LEAST, MOST},
                        new int[] {32767, -32768, -1, 0, -32768, 32767, 0, -1}));
        test(27, "an int has all bits", () ->
                lowest(INTS, new int[] {MOST, LEAST + 1, -1, 0}, new int[] {MOST, LEAST + 1, -1, 0}));
        test(27, "the least int may be laid: no FINDING", () -> {
            CrownlessDays x = new CrownlessDays();
            layIn(x, 0, INTS, LEAST);
            due("get(0, 2, 0)", x.get(0, INTS, 0), LEAST);
            due("count(8)", x.count(8), 0);
        });
        refusals();
        order();
        Check.end();
    }

    private static void lowest(int form, int[] laid, int[] got) {
        CrownlessDays x = new CrownlessDays();
        x.sheet(0, form, 1);
        for (int i = 0; i < laid.length; i++) {
            due("lay(0, " + form + ", 0, " + laid[i] + ")", x.lay(0, form, 0, laid[i]), 1);
            due("get of it", x.get(0, form, 0), got[i]);
        }
    }

    private static void refusals() {
        test(27, "a SHEET below 0 is BAD", () -> {
            refused("lay(-1, 0, 0, 9)", BAD, x -> x.lay(-1, 0, 0, 9));
            refused("lay(least, 0, 0, 9)", BAD, x -> x.lay(LEAST, 0, 0, 9));
        });
        test(27, "a SHEET above 3 is BAD", () -> {
            refused("lay(4, 0, 0, 9)", BAD, x -> x.lay(4, 0, 0, 9));
            refused("lay(most, 0, 0, 9)", BAD, x -> x.lay(MOST, 0, 0, 9));
        });
        test(27, "a FORM below 0 is BAD", () -> {
            refused("lay(0, -1, 0, 9)", BAD, x -> x.lay(0, -1, 0, 9));
            refused("lay(0, least, 0, 9)", BAD, x -> x.lay(0, LEAST, 0, 9));
        });
        test(27, "a FORM above 2 is BAD", () -> {
            refused("lay(2, 3, 0, 9)", BAD, x -> x.lay(2, 3, 0, 9));
            refused("lay(2, most, 0, 9)", BAD, x -> x.lay(2, MOST, 0, 9));
        });
        test(27, "NULL: the SHEET is LOST", () -> {
            for (int f = 0; f < 3; f++) {
                int form = f;
                found("lay(3, " + form + ", 0, 9)", NULL, x -> x.lay(3, form, 0, 9));
            }
        });
        test(27, "CAST: it has another FORM", () -> {
            for (int sheet = 0; sheet < 3; sheet++) {
                int s = sheet;
                found("lay(" + s + ", another, 0, 9)", CAST, x -> x.lay(s, (s + 1) % 3, 0, 9));
                found("lay(" + s + ", yet another, 0, 9)", CAST, x -> x.lay(s, (s + 2) % 3, 0, 9));
            }
        });
        test(27, "INDEX: below 0", () -> {
            found("lay(0, 0, -1, 9)", INDEX, x -> x.lay(0, BYTES, -1, 9));
            found("lay(0, 0, least, 9)", INDEX, x -> x.lay(0, BYTES, LEAST, 9));
        });
        test(27, "INDEX: as many as there are, or more", () -> {
            found("lay(0, 0, 3, 9)", INDEX, x -> x.lay(0, BYTES, 3, 9));
            found("lay(2, 2, 5, 9)", INDEX, x -> x.lay(2, INTS, 5, 9));
            found("lay(0, 0, 60, 9)", INDEX, x -> x.lay(0, BYTES, 60, 9));
            found("lay(0, 0, most, 9)", INDEX, x -> x.lay(0, BYTES, MOST, 9));
        });
        test(27, "INDEX: of no items there is no first", () -> {
            CrownlessDays x = new CrownlessDays();
            x.sheet(0, INTS, 0);
            due("lay(0, 2, 0, 9)", x.lay(0, INTS, 0, 9), INDEX);
        });
    }

    private static void order() {
        test(27, "BAD is ahead of NULL", () -> refused("lay(3, 3, 0, 9)", BAD, x -> x.lay(3, 3, 0, 9)));
        test(27, "NULL is ahead of INDEX", () -> found("lay(3, 0, -1, 9)", NULL, x -> x.lay(3, 0, -1, 9)));
        test(27, "CAST is ahead of INDEX", () -> {
            found("lay(0, 1, -1, 9)", CAST, x -> x.lay(0, SHORTS, -1, 9));
            found("lay(0, 1, 3, 9)", CAST, x -> x.lay(0, SHORTS, 3, 9));
        });
    }
}
