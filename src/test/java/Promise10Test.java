/** hears: when a town hears, when there is law again, how many days there is none. */
public final class Promise10Test extends Promise {
    public static void main(String[] args) {
        test(10, "where he DIED a TOWN HEARS on that DAY and HIDDEN", () -> {
            CrownlessDays x = new CrownlessDays();
            due("hears(0, 0)", x.hears(0, 0), 0);
            x.set(0, 7);
            x.set(1, 9);
            due("hears(7, 0)", x.hears(7, 0), 9);
            x.set(2, 9);
            due("hears(7, 0)", x.hears(7, 0), 18);
        });
        test(10, "elsewhere the WAY is added", () -> {
            CrownlessDays x = with("ab2;bc3", "");
            x.set(1, 1);
            x.set(2, 4);
            due("hears(2, 0)", x.hears(2, 0), 10);
        });
        test(10, "with no WAY a TOWN never HEARS: NONE", () -> {
            CrownlessDays x = with("ab2", "");
            x.set(1, 9);
            due("hears(2, 0)", x.hears(2, 0), NONE);
            x.set(0, 2);
            due("hears(0, 0)", x.hears(0, 0), NONE);
        });
        test(10, "the latest DAY on which one HEARS is 81", () -> due("hears(7, 0)", latest().hears(7, 0), 81));
        test(10, "LAW AGAIN where he is CROWNED from that DAY on", () -> {
            CrownlessDays x = with("ab2", "");
            due("hears(0, 1)", x.hears(0, 1), 1);
            due("hears(1, 1)", x.hears(1, 1), 3);
            x.set(4, 1);
            due("hears(0, 1)", x.hears(0, 1), 5);
            due("hears(1, 1)", x.hears(1, 1), 3);
        });
        test(10, "NONE: the HEIR never HEARS, so there is never LAW", () -> {
            CrownlessDays x = neverCrowned("ab2", "");
            due("hears(0, 1)", x.hears(0, 1), NONE);
            due("hears(7, 1)", x.hears(7, 1), NONE);
        });
        test(10, "NONE: the HEIR has no WAY to the CROWN, so there is never LAW", () -> {
            CrownlessDays x = with("ab2", "");
            x.set(4, 7);
            due("hears(0, 1)", x.hears(0, 1), NONE);
            due("hears(7, 1)", x.hears(7, 1), NONE);
        });
        test(10, "NONE: from the CROWN there is no WAY, so LAW never comes there", () -> {
            CrownlessDays x = with("ab2;gh1", "");
            due("hears(1, 1)", x.hears(1, 1), 3);
            due("hears(6, 1)", x.hears(6, 1), NONE);
        });
        test(10, "the latest DAY from which there is LAW is 208", () -> due("hears(7, 1)", latest().hears(7, 1), 208));
        test(10, "DAYS without LAW run from HEARS to LAW, 1 at least", () -> {
            CrownlessDays x = with("ab2", "");
            due("hears(0, 2)", x.hears(0, 2), 1);
            due("hears(1, 2)", x.hears(1, 2), 1);
            x.set(4, 1);
            due("hears(0, 2)", x.hears(0, 2), 5);
            due("hears(1, 2)", x.hears(1, 2), 1);
        });
        test(10, "127 DAYS without LAW are the most", () -> {
            due("hears(0, 2)", latest().hears(0, 2), 127);
            due("hears(7, 2)", latest().hears(7, 2), 127);
        });
        test(10, "0 DAYS: it does not HEAR", () -> {
            due("hears(2, 2), LAW elsewhere", with("ab2", "").hears(2, 2), 0);
            due("hears(2, 2), never LAW", neverCrowned("ab2", "").hears(2, 2), 0);
        });
        test(10, "NONE: without LAW for ever", () -> {
            CrownlessDays x = neverCrowned("ab2", "");
            due("hears(0, 2)", x.hears(0, 2), NONE);
            due("hears(1, 2)", x.hears(1, 2), NONE);
        });
        test(10, "SWORN towns HEAR and have LAW as others do", () -> {
            CrownlessDays x = with("ab2", "");
            x.set(5, 255);
            due("hears(1, 0)", x.hears(1, 0), 2);
            due("hears(1, 1)", x.hears(1, 1), 3);
        });
        test(10, "a TOWN below 0 is BAD", () -> {
            for (int w = 0; w < 3; w++) {
                int what = w;
                refused("hears(-1, " + what + ")", BAD, x -> x.hears(-1, what));
                refused("hears(least, " + what + ")", BAD, x -> x.hears(LEAST, what));
            }
        });
        test(10, "a TOWN above 7 is BAD", () -> {
            for (int w = 0; w < 3; w++) {
                int what = w;
                refused("hears(8, " + what + ")", BAD, x -> x.hears(8, what));
                refused("hears(most, " + what + ")", BAD, x -> x.hears(MOST, what));
            }
        });
        test(10, "what below 0 is BAD", () -> {
            refused("hears(0, -1)", BAD, x -> x.hears(0, -1));
            refused("hears(0, least)", BAD, x -> x.hears(0, LEAST));
        });
        test(10, "what above 2 is BAD", () -> {
            refused("hears(0, 3)", BAD, x -> x.hears(0, 3));
            refused("hears(0, most)", BAD, x -> x.hears(0, MOST));
        });
        Check.end();
    }

    /** Every day as late as can be: the heir at one end, death and crown at the other. */
    private static CrownlessDays latest() {
        CrownlessDays x = with(LONGEST, "");
        x.set(1, 9);
        x.set(2, 9);
        x.set(3, 7);
        return x;
    }
}
