/** digest: all that can be asked, in one number. */
public final class Promise32Test extends Promise {
    private static long h;

    public static void main(String[] args) {
        test(32, "of a new object, reckoned by hand", () ->
                due("digest()", new CrownlessDays().digest(), 8813659439081978542L));
        test(32, "of a text with a FAULT", () ->
                due("digest()", with("ab9", "a9o9a;").digest(), -8585015119001781021L));
        test(32, "of used and of full objects, as longs that wrap", () -> {
            due("digest() of a used one", used().digest(), byHand(used()));
            due("digest() of a full one", full().digest(), byHand(full()));
        });
        test(32, "with a TOWN to ask other than 0, and NONE for many", () -> {
            CrownlessDays x = with("cd1;ce1;gh9", "c9o1b;d0o4.");
            x.set(0, 2);
            due("ask()", x.ask(), 2);
            due("digest()", x.digest(), byHand(x));
        });
        test(32, "one ROAD, one PERSON", () -> {
            due("digest() of one road", with("ab1", "").digest(), byHand(with("ab1", "")));
            due("digest() of one person", with("", "a1o1.").digest(), byHand(with("", "a1o1.")));
        });
        test(32, "SHEETS and FINDINGS are not in it", () -> {
            CrownlessDays x = used();
            long before = x.digest();
            x.lose(3);
            x.lose(0);
            x.lay(2, INTS, 0, 99);
            due("digest()", x.digest(), before);
        });
        test(32, "it changes nothing, the latest FINDING neither", () -> {
            CrownlessDays x = full();
            long before = x.digest();
            due("digest() again", x.digest(), before);
            due("count(8)", x.count(8), 5);
            due("count(7)", x.count(7), 8);
            items(x, 2, INTS, 10, 20, 30, 40, 50);
        });
        Check.end();
    }

    private static void add(long... values) {
        for (long v : values) {
            h = 31 * h + v;
        }
    }

    private static long byHand(CrownlessDays x) {
        h = 17;
        for (int what = 0; what <= 7; what++) {
            add(x.count(what));
        }
        add(x.fault(0), x.fault(1));
        for (int t = 0; t <= 7; t++) {
            add(x.way(0, t), x.hears(t, 0), x.hears(t, 1), x.hears(t, 2), x.reigns(7, 5, t));
        }
        for (int r = 0; r < x.count(0); r++) {
            add(x.road(r, 0), x.road(r, 1), x.road(r, 2));
        }
        for (int p = 0; p < x.count(1); p++) {
            add(x.person(p, 0), x.person(p, 1), x.person(p, 2), x.person(p, 3), x.person(p, 4));
            add(x.rides(p, 0), x.rides(p, 1), x.rides(p, 2));
        }
        add(x.crowned(), x.knew(5), x.lost(0), x.lost(1), x.swear(0), x.swear(1), x.place(0), x.place(1));
        add(x.litter(0), x.litter(1), x.fits(0), x.fits(1), x.ask(), x.out(5, 3, 9, 0), x.out(5, 3, 9, 1));
        add(x.reigns(7, 5, NONE));
        return h;
    }
}
