/** ask: the next town to ask. */
public final class Promise22Test extends Promise {
    public static void main(String[] args) {
        test(22, "no ROADS: all are like, so TOWN 0", () -> due("ask()", new CrownlessDays().ask(), 0));
        test(22, "no TOWN fits: TOWN 0", () -> {
            CrownlessDays x = with("ab1;gh1", "");
            x.seen(0, 1);
            due("fits(1)", x.fits(1), 0);
            due("ask()", x.ask(), 0);
        });
        test(22, "one TOWN fits: each tells as much, so TOWN 0", () -> {
            CrownlessDays x = with("gh1", "f9o1b;f0o1.");
            x.seen(0, 1);
            due("fits(1)", x.fits(1), 32);
            due("ask()", x.ask(), 0);
        });
        test(22, "NONE is alike, too", () -> {
            // By a: 0, 1 and six NONE; by c, d, e: five NONE.
            due("ask()", with("ab1;cd1;ce1", "").ask(), 2);
        });
        test(22, "of like ones the least", () -> {
            due("ask()", with("gh1;fh1", "").ask(), 5);
            due("ask() by a longest way", with(LONGEST, "").ask(), 0);
        });
        test(22, "it may be TOWN 7", () -> {
            // Of a, b, c, h each but h hears by two of the others alike.
            CrownlessDays x = with("ha1;hb2;hc3;ab2;ac2;bc2", "h9o1b;h0o1.");
            x.set(3, 3);
            x.seen(0, 1);
            due("fits(1)", x.fits(1), 135);
            due("ask()", x.ask(), 7);
        });
        test(22, "TOWN 7 counts among those by which it HEARS alike", () -> {
            // Of a, b, h: a hears by b and h alike, b by each on a day of its own.
            CrownlessDays x = with("ab2;ah2", "a9o1b;a0o1.");
            x.set(3, 3);
            x.seen(0, 1);
            due("fits(1)", x.fits(1), 131);
            due("ask()", x.ask(), 1);
        });
        test(22, "only the TOWNS that fit count", () -> {
            CrownlessDays x = neverCrowned("ab2;ac2;de1;ef1", "c9o1b;c0o1.");
            due("ask() with nothing SEEN", x.ask(), 0);
            x.seen(0, 1);
            due("fits(1)", x.fits(1), 7);
            due("ask()", x.ask(), 1);
        });
        test(22, "it leaves what is told", () -> {
            CrownlessDays x = used();
            long before = x.digest();
            x.ask();
            due("digest()", x.digest(), before);
            due("set(0, 0)", x.set(0, 0), 1);
        });
        Check.end();
    }
}
