/** Promises 9 to 12: the way, who hears when, the law, the crowning, who knew. */
public final class NewsTest {
    public static void main(String[] args) {
        ways();
        news();
        noHeirNoLaw();
        noWayToTheCrown();
        longest();
        Check.end();
    }

    private static void ways() {
        CrownlessDays x = Check.with("ab9;ab2;bc3;ca1;de9", "");
        int[][] due = {
            {0, 2, 1, -1, -1}, {2, 0, 3, -1, -1}, {1, 3, 0, -1, -1}, {-1, -1, -1, 0, 9}, {-1, -1, -1, 9, 0}};
        for (int a = 0; a < 5; a++) {
            for (int b = 0; b < 5; b++) {
                Check.due("way(" + a + ", " + b + ")", x.way(a, b), due[a][b]);
            }
        }
        Check.due("way(7, 7)", x.way(7, 7), 0);
        Check.due("way(7, 6)", x.way(7, 6), -1);
        int[] noTown = {-1, 8, Integer.MIN_VALUE, Integer.MAX_VALUE};
        for (int t : noTown) {
            Check.due("way of no town", x.way(t, 0), CrownlessDays.BAD);
            Check.due("way to no town", x.way(0, t), CrownlessDays.BAD);
            Check.due("hears of no town", x.hears(t, 0), CrownlessDays.BAD);
        }
        Check.due("hears what 3", x.hears(0, 3), CrownlessDays.BAD);
        Check.due("hears what -1", x.hears(0, -1), CrownlessDays.BAD);
    }

    private static void news() {
        CrownlessDays x = Check.with("ab2;bc3;cd4", "");
        x.set(0, 1);
        x.set(1, 5);
        x.set(2, 6);
        x.set(3, 2);
        x.set(4, 3);
        int[] heard = {13, 11, 14, 18, -1};
        // The heir at c hears on day 14, rides 4 days to d, and is crowned a day later.
        int[] law = {28, 26, 23, 19, -1};
        int[] lawless = {15, 15, 9, 1, 0};
        for (int t = 0; t < 5; t++) {
            Check.due("hears(" + t + ", 0)", x.hears(t, 0), heard[t]);
            Check.due("hears(" + t + ", 1)", x.hears(t, 1), law[t]);
            Check.due("hears(" + t + ", 2)", x.hears(t, 2), lawless[t]);
        }
        Check.due("crowned()", x.crowned(), 19);
        Check.due("knew(0)", x.knew(0), 0);
        Check.due("knew(10)", x.knew(10), 0);
        Check.due("knew(11)", x.knew(11), 2);
        Check.due("knew(13)", x.knew(13), 3);
        Check.due("knew(14)", x.knew(14), 7);
        Check.due("knew(17)", x.knew(17), 7);
        Check.due("knew(18)", x.knew(18), 15);
        Check.due("knew(99)", x.knew(99), 15);
        Check.due("knew(-1)", x.knew(-1), CrownlessDays.BAD);
        Check.due("knew(100)", x.knew(100), CrownlessDays.BAD);
    }

    private static void noHeirNoLaw() {
        CrownlessDays x = Check.with("ab2", "");
        x.set(3, 4);
        Check.due("crowned()", x.crowned(), -1);
        Check.due("hears(1, 0)", x.hears(1, 0), 2);
        Check.due("hears(1, 1)", x.hears(1, 1), -1);
        Check.due("hears(1, 2)", x.hears(1, 2), -1);
        Check.due("hears(4, 2)", x.hears(4, 2), 0);
    }

    private static void noWayToTheCrown() {
        CrownlessDays x = Check.with("ab2", "");
        x.set(4, 5);
        Check.due("crowned()", x.crowned(), -1);
        Check.due("hears(0, 2)", x.hears(0, 2), -1);
        Check.due("hears(5, 0)", x.hears(5, 0), -1);
        Check.due("hears(5, 1)", x.hears(5, 1), -1);
        Check.due("hears(5, 2)", x.hears(5, 2), 0);
    }

    private static void longest() {
        CrownlessDays x = Check.with("ab9;bc9;cd9;de9;ef9;fg9;gh9", "");
        x.set(1, 9);
        x.set(2, 9);
        x.set(3, 7);
        Check.due("way(0, 7)", x.way(0, 7), 63);
        Check.due("hears(7, 0)", x.hears(7, 0), 81);
        Check.due("crowned()", x.crowned(), 145);
        Check.due("hears(7, 1)", x.hears(7, 1), 208);
        Check.due("hears(7, 2)", x.hears(7, 2), 127);
        Check.due("knew(80)", x.knew(80), 127);
        Check.due("knew(81)", x.knew(81), 255);
    }
}
