/** get: an item of a sheet. */
public final class Promise28Test extends Promise {
    public static void main(String[] args) {
        test(28, "the first item and the last, of each FORM", () -> {
            CrownlessDays x = used();
            due("get(0, 0, 0)", x.get(0, BYTES, 0), 1);
            due("get(0, 0, 2)", x.get(0, BYTES, 2), 3);
            due("get(1, 1, 0)", x.get(1, SHORTS, 0), 0);
            due("get(1, 1, 2)", x.get(1, SHORTS, 2), 7);
            due("get(2, 2, 0)", x.get(2, INTS, 0), 10);
            due("get(2, 2, 4)", x.get(2, INTS, 4), 50);
            due("count(8)", x.count(8), 5);
        });
        test(28, "an item below 0 is told as it is", () -> due("get(0, 0, 1)", used().get(0, BYTES, 1), -2));
        refusals();
        findings();
        Check.end();
    }

    private static void refusals() {
        test(28, "a SHEET below 0 is BAD: the least int, no FINDING", () -> {
            refused("get(-1, 0, 0)", LEAST, x -> x.get(-1, 0, 0));
            refused("get(least, 0, 0)", LEAST, x -> x.get(LEAST, 0, 0));
        });
        test(28, "a SHEET above 3 is BAD: the least int, no FINDING", () -> {
            refused("get(4, 0, 0)", LEAST, x -> x.get(4, 0, 0));
            refused("get(most, 0, 0)", LEAST, x -> x.get(MOST, 0, 0));
        });
        test(28, "a FORM below 0 is BAD: the least int, no FINDING", () -> {
            refused("get(0, -1, 0)", LEAST, x -> x.get(0, -1, 0));
            refused("get(0, least, 0)", LEAST, x -> x.get(0, LEAST, 0));
        });
        test(28, "a FORM above 2 is BAD: the least int, no FINDING", () -> {
            refused("get(2, 3, 0)", LEAST, x -> x.get(2, 3, 0));
            refused("get(2, most, 0)", LEAST, x -> x.get(2, MOST, 0));
        });
        test(28, "BAD is ahead of NULL: no FINDING", () -> refused("get(3, 3, 0)", LEAST, x -> x.get(3, 3, 0)));
    }

    private static void findings() {
        test(28, "NULL: the least int, and count() 8 tells", () -> {
            for (int f = 0; f < 3; f++) {
                int form = f;
                foundByGet("get(3, " + form + ", 0)", NULL, x -> x.get(3, form, 0));
            }
        });
        test(28, "CAST: the least int, and count() 8 tells", () -> {
            for (int sheet = 0; sheet < 3; sheet++) {
                int s = sheet;
                foundByGet("get(" + s + ", another, 0)", CAST, x -> x.get(s, (s + 1) % 3, 0));
                foundByGet("get(" + s + ", yet another, 0)", CAST, x -> x.get(s, (s + 2) % 3, 0));
            }
        });
        test(28, "INDEX below 0: the least int, and count() 8 tells", () -> {
            foundByGet("get(0, 0, -1)", INDEX, x -> x.get(0, BYTES, -1));
            foundByGet("get(0, 0, least)", INDEX, x -> x.get(0, BYTES, LEAST));
        });
        test(28, "INDEX of as many as there are, or more: the least int, and count() 8 tells", () -> {
            foundByGet("get(0, 0, 3)", INDEX, x -> x.get(0, BYTES, 3));
            foundByGet("get(0, 0, most)", INDEX, x -> x.get(0, BYTES, MOST));
        });
        test(28, "NULL is ahead of INDEX", () -> foundByGet("get(3, 0, -1)", NULL, x -> x.get(3, 0, -1)));
        test(28, "CAST is ahead of INDEX", () -> foundByGet("get(0, 1, 3)", CAST, x -> x.get(0, SHORTS, 3)));
    }
}
