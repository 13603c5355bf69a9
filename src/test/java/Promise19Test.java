/** forget: all that was seen is forgotten. */
public final class Promise19Test extends Promise {
    public static void main(String[] args) {
        test(19, "of nothing 0", () -> {
            CrownlessDays x = new CrownlessDays();
            due("forget()", x.forget(), 0);
            due("forget() again", x.forget(), 0);
        });
        test(19, "of 8 all", () -> {
            CrownlessDays x = full();
            due("forget()", x.forget(), 8);
            due("count(7)", x.count(7), 0);
            due("forget() again", x.forget(), 0);
        });
        test(19, "what is forgotten tells nothing", () -> {
            CrownlessDays x = new CrownlessDays();
            x.seen(0, 1);
            due("fits(0)", x.fits(0), 0);
            x.forget();
            due("fits(0)", x.fits(0), 1023);
            due("fits(1)", x.fits(1), 255);
            x.seen(1, 0);
            due("fits(0) by what is SEEN anew", x.fits(0), 1023);
        });
        Check.end();
    }
}
