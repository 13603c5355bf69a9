/** A new object. */
public final class Promise01Test extends Promise {
    public static void main(String[] args) {
        test(1, "no ROADS", () -> {
            CrownlessDays x = new CrownlessDays();
            due("count(0)", x.count(0), 0);
            due("road(0, 0)", x.road(0, 0), BAD);
            due("way(0, 1)", x.way(0, 1), NONE);
        });
        test(1, "nobody", () -> {
            CrownlessDays x = new CrownlessDays();
            due("count(1)", x.count(1), 0);
            due("person(0, 0)", x.person(0, 0), BAD);
            due("rides(0, 0)", x.rides(0, 0), BAD);
            due("count(4)", x.count(4), 0);
            due("count(5)", x.count(5), 0);
        });
        test(1, "both texts are empty", () -> {
            CrownlessDays x = new CrownlessDays();
            for (int text = 0; text < 2; text++) {
                due("count", x.count(2 + text), 0);
                due("fault", x.fault(text), NONE);
                due("undo", x.undo(text), NOT);
            }
        });
        test(1, "all SHEETS are LOST", () -> {
            for (int s = 0; s < 4; s++) {
                CrownlessDays x = new CrownlessDays();
                due("get(" + s + ", 0, 0)", x.get(s, BYTES, 0), LEAST);
                due("count(8)", x.count(8), 1);
                due("lose(" + s + ")", x.lose(s), NULL);
            }
        });
        test(1, "he DIED in TOWN 0 on DAY 0 at first, HIDDEN for 0", () -> {
            CrownlessDays x = new CrownlessDays();
            due("hears(0, 0)", x.hears(0, 0), 0);
            due("set(0, 7)", x.set(0, 7), 0);
            due("set(1, 9)", x.set(1, 9), 0);
            due("set(2, 9)", x.set(2, 9), 0);
        });
        test(1, "HEIR and CROWN are in TOWN 0 at first", () -> {
            CrownlessDays x = new CrownlessDays();
            due("crowned()", x.crowned(), 1);
            due("set(3, 7)", x.set(3, 7), 0);
            due("set(4, 7)", x.set(4, 7), 0);
        });
        test(1, "SWORN are none at first", () -> {
            CrownlessDays x = new CrownlessDays();
            due("count(6)", x.count(6), 0);
            due("set(5, 255)", x.set(5, 255), 0);
        });
        test(1, "nothing is SEEN at first", () -> {
            CrownlessDays x = new CrownlessDays();
            due("count(7)", x.count(7), 0);
            due("fits(0)", x.fits(0), 1023);
            due("fits(1)", x.fits(1), 255);
            due("forget()", x.forget(), 0);
        });
        test(1, "no FINDING at first", () -> due("count(8)", new CrownlessDays().count(8), 0));
        test(1, "one object leaves another new", () -> {
            CrownlessDays x = new CrownlessDays();
            long before = x.digest();
            full();
            due("digest()", x.digest(), before);
            due("lose(0)", x.lose(0), NULL);
        });
        test(1, "the 512th call is answered", () -> {
            CrownlessDays x = new CrownlessDays();
            for (int i = 1; i < 512; i++) {
                due("call " + i, x.type(0, 'a'), i <= 47 ? i : FULL);
            }
            due("call 512", x.wipe(0), 47);
        });
        Check.end();
    }
}
