/** crowned: the day of the crowning. */
public final class Promise11Test extends Promise {
    public static void main(String[] args) {
        test(11, "one DAY behind the HEIR's hearing at the least", () -> {
            CrownlessDays x = new CrownlessDays();
            due("crowned()", x.crowned(), 1);
            x.set(1, 4);
            x.set(2, 3);
            due("crowned()", x.crowned(), 8);
        });
        test(11, "behind the DAY on which the HEIR's TOWN HEARS, not the CROWN's", () -> {
            CrownlessDays x = with("ab2;bc3", "");
            x.set(3, 1);
            due("crowned()", x.crowned(), 5);
            x.set(4, 2);
            due("crowned()", x.crowned(), 6);
        });
        test(11, "NONE: the HEIR's TOWN does not HEAR", () -> {
            CrownlessDays x = with("ab2", "");
            x.set(3, 2);
            due("crowned()", x.crowned(), NONE);
            x.set(4, 2);
            due("crowned() where he is", x.crowned(), NONE);
        });
        test(11, "NONE: no WAY to that of the CROWN", () -> {
            CrownlessDays x = with("ab2", "");
            x.set(4, 2);
            due("crowned()", x.crowned(), NONE);
        });
        test(11, "145 is the latest DAY", () -> {
            CrownlessDays x = with(LONGEST, "");
            x.set(1, 9);
            x.set(2, 9);
            x.set(3, 7);
            due("crowned()", x.crowned(), 145);
        });
        Check.end();
    }
}
