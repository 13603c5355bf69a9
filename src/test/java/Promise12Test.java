/** knew: the towns that hear by a day. */
public final class Promise12Test extends Promise {
    public static void main(String[] args) {
        test(12, "DAY 0 is the least", () -> {
            CrownlessDays x = new CrownlessDays();
            due("knew(0)", x.knew(0), 1);
            x.set(0, 7);
            due("knew(0)", x.knew(0), 128);
            x.set(1, 1);
            due("knew(0) of a death on day 1", x.knew(0), 0);
        });
        test(12, "DAY 99 is the greatest", () -> {
            CrownlessDays x = with(LONGEST, "");
            x.set(1, 9);
            x.set(2, 9);
            due("knew(99)", x.knew(99), 255);
        });
        test(12, "by then: on that DAY too, not the DAY ahead", () -> {
            CrownlessDays x = with("ab2;bc3", "");
            x.set(2, 1);
            int[] bits = {0, 1, 1, 3, 3, 3, 7, 7};
            for (int day = 0; day < bits.length; day++) {
                due("knew(" + day + ")", x.knew(day), bits[day]);
            }
        });
        test(12, "a TOWN that never HEARS is not among them", () -> {
            due("knew(99)", with("ab2;cd1", "").knew(99), 3);
            due("knew(0)", with("", "").knew(0), 1);
        });
        test(12, "a DAY below 0 is BAD", () -> {
            refused("knew(-1)", BAD, x -> x.knew(-1));
            refused("knew(least)", BAD, x -> x.knew(LEAST));
        });
        test(12, "a DAY above 99 is BAD", () -> {
            refused("knew(100)", BAD, x -> x.knew(100));
            refused("knew(most)", BAD, x -> x.knew(MOST));
        });
        Check.end();
    }
}
