/** Promise 32: the digest, made again from the calls that it tells of; and that refused calls change nothing. */
public final class DigestTest {
    private static long h;

    public static void main(String[] args) {
        same("", "");
        same("ab2;bc3;cd1;ad9;de2;fg4", "a5o3b;b2o7c;c4b1a;d3c9b;e9o5d;f1o2a;b0o4.");
        same("ab2;bc", "a5o3b;b2o7c;c4b1a;");
        same("ab9;bc9;cd9;de9;ef9;fg9;gh9;ha1;ab1;ac2;ad3;ae4", "a9b9b;a9b9c;a9b9d;a9b9e;a9b9f;a9b9g;a9b9h;a9b9a");
        refusedChangesNothing();
        Check.end();
    }

    private static void add(long... values) {
        for (long v : values) {
            h = h * 31 + v;
        }
    }

    private static long byHand(CrownlessDays x) {
        h = 17;
        for (int what = 0; what < 8; what++) {
            add(x.count(what));
        }
        add(x.fault(0), x.fault(1));
        for (int t = 0; t < 8; t++) {
            add(x.way(0, t), x.hears(t, 0), x.hears(t, 1), x.hears(t, 2), x.reigns(7, 5, t));
        }
        for (int r = 0; r < x.count(0); r++) {
            add(x.road(r, 0), x.road(r, 1), x.road(r, 2));
        }
        for (int p = 0; p < x.count(1); p++) {
            add(x.person(p, 0), x.person(p, 1), x.person(p, 2), x.person(p, 3), x.person(p, 4));
            add(x.rides(p, 0), x.rides(p, 1), x.rides(p, 2));
        }
        add(x.crowned(), x.knew(5), x.lost(0), x.lost(1), x.swear(0), x.swear(1), x.place(0), x.place(1));
        add(x.litter(0), x.litter(1), x.fits(0), x.fits(1), x.ask(), x.out(5, 3, 9, 0), x.out(5, 3, 9, 1));
        add(x.reigns(7, 5, CrownlessDays.NONE));
        return h;
    }

    private static void same(String roads, String persons) {
        CrownlessDays x = Check.with(roads, persons);
        Check.due("digest", x.digest(), byHand(x));
        x.set(0, 2);
        x.set(1, 3);
        x.set(2, 4);
        x.set(3, 1);
        x.set(4, 3);
        x.set(5, 9);
        x.seen(0, 1);
        long before = byHand(x);
        Check.due("digest", x.digest(), before);
        Check.due("digest changes nothing", x.digest(), before);
        x.lose(0);
        x.sheet(0, 0, 3);
        Check.due("sheets and findings are not in it", x.digest(), before);
    }

    /** Each refusal on a used object; the digest, the sheets and the finding are as they were. */
    private static void refusedChangesNothing() {
        CrownlessDays x = Check.with("ab1;ab1;ab1;ab1;ab1;ab1;ab1;ab1;ab1;ab1;ab1;ab2", "a5o3b;b2o7a");
        for (int i = 0; i < 8; i++) {
            x.seen(i, 0);
        }
        Check.layAll(x, 0, 1, 2, 3, 0, 5);
        x.sheet(1, 1, 2);
        long before = x.digest();
        int b = 0;
        b += x.type(2, 0) + x.type(1, 256) + x.wipe(2) + x.undo(-1) + x.fault(9) + x.road(12, 0) + x.person(2, 0);
        b += x.set(0, 8) + x.set(6, 0) + x.way(8, 0) + x.hears(8, 0) + x.knew(100) + x.rides(2, 0) + x.lost(2);
        b += x.swear(2) + x.place(2) + x.litter(2) + x.seen(8, 0) + x.read(4) + x.fits(2) + x.reigns(0, 0, 0);
        b += x.sheet(4, 0, 0) + x.lose(4) + x.lay(0, 3, 0, 0) + x.copy(0, 0, 4, 0, 0) + x.write(2, 0) + x.count(9);
        Check.due("all are BAD", b, 27 * CrownlessDays.BAD);
        Check.due("FULL", x.type(0, 'a') + x.seen(0, 0), 2 * CrownlessDays.FULL);
        Check.due("no finding", x.count(8), 0);
        unchanged(x, before);
        Check.due("NULL", x.read(3) + x.lose(3) + x.lay(3, 0, 0, 0) + x.copy(3, 0, 0, 0, 1) + x.write(0, 3), -55);
        unchanged(x, before);
        Check.due("STORE", x.copy(0, 0, 1, 0, 1), -14);
        Check.due("INDEX", x.copy(0, 0, 0, 2, 4), -12);
        Check.due("CAST", x.lay(0, 1, 0, 9), -13);
        Check.due("SIZE", x.sheet(0, 1, -9), -15);
        Check.due("count(8)", x.count(8), 5);
        unchanged(x, before);
        Check.due("count(8) stays with what is fine", x.count(8), 5);
    }

    private static void unchanged(CrownlessDays x, long before) {
        Check.due("digest", x.digest(), before);
        int[] items = {1, 2, 3, 0, 5};
        for (int i = 0; i < items.length; i++) {
            Check.due("item", x.get(0, 2, i), items[i]);
        }
        Check.due("item", x.get(1, 1, 1), 0);
    }
}
