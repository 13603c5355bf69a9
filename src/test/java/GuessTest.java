/** Promises 18 to 22: what was seen, and what it tells. */
public final class GuessTest {
    public static void main(String[] args) {
        seeing();
        reading();
        readingBytesAndShorts();
        fitting();
        asking();
        Check.end();
    }

    private static void seeing() {
        CrownlessDays x = new CrownlessDays();
        for (int i = 0; i < 8; i++) {
            Check.due("seen " + i, x.seen(i, i % 2), i + 1);
        }
        Check.due("seen one more", x.seen(0, 0), CrownlessDays.FULL);
        Check.due("BAD ahead of FULL", x.seen(8, 0), CrownlessDays.BAD);
        Check.due("seen(-1, 0)", x.seen(-1, 0), CrownlessDays.BAD);
        Check.due("seen(0, 2)", x.seen(0, 2), CrownlessDays.BAD);
        Check.due("seen(0, -1)", x.seen(0, -1), CrownlessDays.BAD);
        Check.due("count(7)", x.count(7), 8);
        Check.due("forget()", x.forget(), 8);
        Check.due("forget() again", x.forget(), 0);
        Check.due("count(7)", x.count(7), 0);
    }

    private static void reading() {
        CrownlessDays x = new CrownlessDays();
        Check.due("read of a lost one", x.read(0), -11);
        Check.due("count(8)", x.count(8), 1);
        Check.due("read(-1)", x.read(-1), CrownlessDays.BAD);
        Check.due("read(4)", x.read(4), CrownlessDays.BAD);
        Check.layAll(x, 0, 7, 1, 0, 0, 3);
        Check.due("the odd one out is not whole", x.read(0), 2);
        Check.due("count(7)", x.count(7), 2);
        Check.due("comes to what was seen", x.read(0), 2);
        Check.due("count(7)", x.count(7), 4);
        Check.layAll(x, 1, 1, 1, 8, 0, 2, 0);
        Check.due("up to the first that may not be", x.read(1), 1);
        Check.layAll(x, 1, 1, 1, 2, 2, 2, 0);
        Check.due("up to the first that may not be", x.read(1), 1);
        Check.layAll(x, 1, -1, 1);
        Check.due("none", x.read(1), 0);
        Check.layAll(x, 1);
        Check.due("an empty one", x.read(1), 0);
        Check.layAll(x, 1, 0, 0, 1, 0, 2, 0);
        Check.due("as many as there is room for", x.read(1), 2);
        Check.due("count(7)", x.count(7), 8);
        Check.due("no room", x.read(1), 0);
        Check.due("count(8) as before", x.count(8), 1);
    }

    private static void readingBytesAndShorts() {
        CrownlessDays x = new CrownlessDays();
        for (int form = 0; form <= 1; form++) {
            x.sheet(2, form, 4);
            x.lay(2, form, 0, 5);
            x.lay(2, form, 1, 1);
            x.lay(2, form, 2, form == 0 ? 256 + 3 : 65536 + 3);
            Check.due("read", x.read(2), 2);
        }
        Check.due("count(7)", x.count(7), 4);
        Check.due("fits: nobody wins", x.fits(0), 0);
    }

    private static void fitting() {
        // b comes to a, c to d: died at b, b wins at a; died at c, c wins at d.
        CrownlessDays x = Check.with("ba2;cd2;bh9;hc9", "a0o1.;b9o1a;c9o1d;d0o1.");
        x.set(3, 7);
        x.set(4, 7);
        Check.due("nothing seen: all", x.fits(0), 1023);
        Check.due("nothing seen: all", x.fits(1), 255);
        x.set(0, 1);
        Check.due("lost(0)", x.lost(0), 2);
        x.seen(1, 1);
        Check.due("fits(1)", x.fits(1), fitsByHand(x, 1, 1));
        x.set(0, 1);
        Check.due("fits(0)", x.fits(0), 1023);
        x.set(0, 4);
        Check.due("died where none hears", x.fits(0), 0);
        Check.due("in place of what is told", x.fits(1), fitsByHand(x, 1, 1));
        x.set(0, 4);
        x.seen(0, 1);
        Check.due("who has no score can't have won", x.fits(1), 0);
        x.forget();
        x.seen(6, 0);
        Check.due("nobody there: not", x.fits(1), 255);
        x.seen(6, 1);
        Check.due("nobody there: not", x.fits(1), 0);
        Check.due("fits(2)", x.fits(2), CrownlessDays.BAD);
        Check.due("fits(-1)", x.fits(-1), CrownlessDays.BAD);
        Check.due("told is as it was", x.set(0, 0), 4);
    }

    private static int fitsByHand(CrownlessDays x, int person, int won) {
        int bits = 0;
        for (int t = 0; t < 8; t++) {
            x.set(0, t);
            if ((x.rides(person, 1) == 1) == (won == 1)) {
                bits |= 1 << t;
            }
        }
        return bits;
    }

    private static void asking() {
        CrownlessDays none = new CrownlessDays();
        // Each town hears from itself alone: 1 and 7 alike, for each.
        Check.due("no roads", none.ask(), 0);
        // From a chain's end all differ but the towns off it: e hears by 0 to 4, the others never.
        CrownlessDays x = Check.with("ab1;bc1;cd1", "");
        Check.due("a: 4 never, 4 unlike", x.ask(), 0);
        CrownlessDays y = Check.with("ab1;ac1;ad1;ae1;af1;ag1;gh3", "");
        // a: six alike by 1; b: by 2 five alike (c to g); g: by 2 five; h: by 5 five (b to f).
        Check.due("ask", y.ask(), 1);
        // Died where c hears (a, b, c): a hears by 0, 2, 2; b by 2, 0, 4. The other three towns never hear alike.
        CrownlessDays w = Check.with("ab2;ac2;de1;ef1", "c9o1b;c0o1.");
        w.set(3, 7);
        w.seen(0, 1);
        Check.due("fits(1)", w.fits(1), 7);
        Check.due("ask the town that tells all three", w.ask(), 1);
        CrownlessDays z = Check.with("ab1;ac1;ad1;ae1;af1;bc5;de5;gh1", "a9o1.");
        z.seen(0, 1);
        Check.due("none fits", z.ask(), 0);
    }
}
