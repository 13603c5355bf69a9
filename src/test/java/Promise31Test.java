/** count: how many there are of each. */
public final class Promise31Test extends Promise {
    public static void main(String[] args) {
        test(31, "of a new object all are 0", () -> {
            CrownlessDays x = new CrownlessDays();
            for (int what = 0; what <= 8; what++) {
                due("count(" + what + ")", x.count(what), 0);
            }
        });
        test(31, "12 ROADS of 47 bytes, 8 PERSONS of 47 bytes", () -> {
            CrownlessDays x = full();
            due("count(0)", x.count(0), 12);
            due("count(1)", x.count(1), 8);
            due("count(2)", x.count(2), 47);
            due("count(3)", x.count(3), 47);
        });
        test(31, "of a text with a FAULT the bytes alone", () -> {
            CrownlessDays x = with("ab1;", "a9o9.;");
            due("count(0)", x.count(0), 0);
            due("count(1)", x.count(1), 0);
            due("count(2)", x.count(2), 4);
            due("count(3)", x.count(3), 6);
            due("count(4)", x.count(4), 0);
        });
        test(31, "how RICH all are together: 0 to 72", () -> {
            due("count(4)", with("", "a9o0.;a9o0a").count(4), 0);
            CrownlessDays x = neverCrowned("", "a9b9b;a8b9c;a7b9d;a6b9e;a5b9f;a4b9g;a3b9h;a2b9a");
            due("count(4)", x.count(4), 72);
            due("count(5)", x.count(5), 8);
        });
        test(31, "how many COME: who is BEATEN or TOO LATE too, who has no WAY not", () -> {
            CrownlessDays x = with("ab3", "a9o1b;b0o1a;a9c1b;c9o1a;a9o1d;a9o1.;a9o1g;a9o1h");
            due("count(5)", x.count(5), 3);
            x.set(5, 255);
            due("count(5), SWORN", x.count(5), 3);
            x.set(0, 2);
            due("count(5), DIED at c", x.count(5), 0);
        });
        test(31, "who is not there does not COME, nor who is undone", () -> {
            due("count(5) of two", neverCrowned("", "a9o1b;a0o1.").count(5), 1);
            CrownlessDays x = neverCrowned("", "a9o1b;a0o1.;a9o1a");
            due("count(5) of three", x.count(5), 2);
            for (int i = 0; i < 6; i++) {
                x.undo(1);
            }
            due("count(5), one undone", x.count(5), 1);
            due("count(4), one undone", x.count(4), 2);
        });
        test(31, "SWORN as bits, 0 to 255", () -> {
            CrownlessDays x = new CrownlessDays();
            x.set(5, 255);
            due("count(6)", x.count(6), 255);
            x.set(5, 0);
            due("count(6)", x.count(6), 0);
        });
        test(31, "SEEN, 0 to 8", () -> {
            CrownlessDays x = full();
            due("count(7)", x.count(7), 8);
            x.forget();
            due("count(7)", x.count(7), 0);
        });
        test(31, "the number of the latest FINDING: 0 before any, 1 to 5", () -> {
            CrownlessDays x = new CrownlessDays();
            layIn(x, 0, BYTES, 1);
            layIn(x, 1, INTS, 1);
            due("count(8) before any", x.count(8), 0);
            x.lose(3);
            due("count(8) NULL", x.count(8), 1);
            x.lay(0, BYTES, 1, 1);
            due("count(8) INDEX", x.count(8), 2);
            x.get(0, INTS, 0);
            due("count(8) CAST", x.count(8), 3);
            x.copy(0, 0, 1, 0, 1);
            due("count(8) STORE", x.count(8), 4);
            x.sheet(0, BYTES, -1);
            due("count(8) SIZE", x.count(8), 5);
            x.read(2);
            due("count(8) NULL again", x.count(8), 1);
        });
        test(31, "a FINDING stays behind calls that are well, BAD, NOT or FULL", () -> {
            CrownlessDays x = new CrownlessDays();
            x.sheet(0, BYTES, -1);
            x.sheet(0, BYTES, 1);
            due("count(8) behind well", x.count(8), 5);
            x.sheet(9, BYTES, 1);
            due("count(8) behind BAD", x.count(8), 5);
            x.undo(0);
            due("count(8) behind NOT", x.count(8), 5);
            for (int i = 0; i < 9; i++) {
                x.seen(0, 0);
            }
            due("count(8) behind FULL", x.count(8), 5);
        });
        test(31, "what below 0 is BAD", () -> {
            refused("count(-1)", BAD, x -> x.count(-1));
            refused("count(least)", BAD, x -> x.count(LEAST));
        });
        test(31, "what above 8 is BAD", () -> {
            refused("count(9)", BAD, x -> x.count(9));
            refused("count(most)", BAD, x -> x.count(MOST));
        });
        Check.end();
    }
}
