/** Promises 13 and 14: who rides, when it comes, what comes of it, who is rich in the end. */
public final class ScoresTest {
    public static void main(String[] args) {
        whoRides();
        guards();
        lawIsThatDayToo();
        cowardsComeLater();
        swornTowns();
        richesByDays();
        richesOfLikeDays();
        refusals();
        Check.end();
    }

    private static void ride(CrownlessDays x, int p, int comes, int fate, int rich) {
        Check.due("rides(" + p + ", 0)", x.rides(p, 0), comes);
        Check.due("rides(" + p + ", 1)", x.rides(p, 1), fate);
        Check.due("rides(" + p + ", 2)", x.rides(p, 2), rich);
    }

    private static void lost(CrownlessDays x, int wins, int last) {
        Check.due("lost(0)", x.lost(0), wins);
        Check.due("lost(1)", x.lost(1), last);
    }

    private static void whoRides() {
        // No score; against itself; against one that there is not; from a town that never hears; to no way.
        CrownlessDays x = Check.with("ab1;cd1", "a9b1.;a9b2b;a9b3h;c9b4a;a9b5d");
        for (int p = 0; p < 5; p++) {
            ride(x, p, -1, 0, p + 1);
        }
        lost(x, 0, -1);
        Check.due("count(5)", x.count(5), 0);
        Check.due("count(4)", x.count(4), 15);
        // The first one that there is not, once there have been more.
        CrownlessDays y = Check.with("ah9", "a9b1c;a0o2.;a0o3.");
        y.set(4, 7);
        ride(y, 0, 0, 1, 4);
        for (int i = 0; i < 6; i++) {
            y.undo(1);
        }
        Check.due("count(1)", y.count(1), 2);
        ride(y, 0, -1, 0, 1);
    }

    private static void guards() {
        // The crowning waits far away, so that only guards decide.
        CrownlessDays x = Check.with("ab1;ah9", "b4o1.;a6o1a;a7o1a;a4b1a;a5b1a;b4b1.;a6o1f;a7o1f");
        x.set(4, 7);
        ride(x, 1, 1, 2, 1);
        ride(x, 2, 1, 1, 2);
        ride(x, 3, 1, 2, 1);
        ride(x, 4, 1, 1, 1);
        // A bold one that is ridden against stands no better for it.
        ride(x, 6, 1, 2, 1);
        ride(x, 7, 1, 1, 2);
        lost(x, 3, 1);
        Check.due("count(5)", x.count(5), 6);
    }

    private static void lawIsThatDayToo() {
        // Crowned at a on day 1, law at b on day 4; it comes from a on day 3, from c on day 4.
        CrownlessDays x = Check.with("ab3;ac1;cb4", "a9o1c;c9o2c;b0o4.");
        ride(x, 0, 3, 1, 5);
        ride(x, 1, 5, 3, 2);
        ride(x, 2, -1, 0, 0);
        lost(x, 1, 3);
        CrownlessDays y = Check.with("ab3;ac1;cb3", "c9o2b;b0o4.");
        Check.due("law at b", y.hears(1, 1), 4);
        ride(y, 0, 4, 3, 2);
        lost(y, 0, -1);
        y.set(3, 2);
        Check.due("law at b", y.hears(1, 1), 6);
        ride(y, 0, 4, 1, 6);
        lost(y, 1, 4);
    }

    private static void cowardsComeLater() {
        CrownlessDays x = Check.with("ab3", "a9c1b;b0o4.;a9o1b;b9c1e;b0o2.");
        Check.due("law at b", x.hears(1, 1), 4);
        ride(x, 0, 4, 3, 1);
        ride(x, 2, 3, 1, 5);
        ride(x, 3, 4, 3, 1);
        x.set(4, 1);
        Check.due("law at b", x.hears(1, 1), 4);
        x.set(3, 1);
        Check.due("law at b", x.hears(1, 1), 4);
        x.set(4, 0);
        Check.due("law at b", x.hears(1, 1), 10);
        ride(x, 0, 4, 1, 1);
        ride(x, 3, 4, 1, 3);
        lost(x, 3, 4);
    }

    private static void swornTowns() {
        CrownlessDays x = Check.with("ab3;ac2;ah9", "a9o1b;b0o4c;c0o2.;c9b3b");
        x.set(4, 7);
        lost(x, 2, 7);
        x.set(5, 2);
        ride(x, 0, 3, 3, 1);
        ride(x, 3, 7, 3, 3);
        ride(x, 1, 8, 2, 4);
        lost(x, 0, -1);
        x.set(5, 1 + 4);
        lost(x, 2, 7);
        ride(x, 1, 8, 3, 0);
    }

    private static void richesByDays() {
        // b takes c's on day 2, a takes b's on day 5 (c's too), c takes a's on day 6 (all).
        CrownlessDays x = Check.with("bc1;ab4;ca5;ch9;hg9", "a9b1b;b5b2c;c3b4a");
        x.set(0, 1);
        x.set(4, 6);
        x.set(1, 1);
        ride(x, 1, 2, 1, 0);
        ride(x, 0, 9, 1, 7);
        ride(x, 2, 7, 2, 0);
        lost(x, 2, 9);
        Check.due("count(4)", x.count(4), 7);
        CrownlessDays y = Check.with("bc1;ab4;ca5;ch9;hg9", "a5b1b;b5b2c;c9b4a");
        y.set(0, 1);
        y.set(4, 6);
        // c on day 6 takes a's 1; a on day 8 is beaten by nobody: 5 and 2 is not more than 5 and 2.
        ride(y, 2, 6, 1, 5);
        ride(y, 0, 8, 2, 0);
        ride(y, 1, 1, 2, 2);
    }

    private static void richesOfLikeDays() {
        CrownlessDays x = Check.with("ah9", "a9o1b;a5o2c;a1o4.");
        x.set(4, 7);
        // All on day 0: person 0 takes 2 from person 1 ahead of person 1's taking 4 from person 2.
        ride(x, 0, 0, 1, 3);
        ride(x, 1, 0, 1, 4);
        ride(x, 2, -1, 0, 0);
        lost(x, 2, 0);
        CrownlessDays y = Check.with("ah9", "a1o4.;a5o2a;a9o1b");
        y.set(4, 7);
        ride(y, 0, -1, 0, 0);
        ride(y, 1, 0, 1, 0);
        ride(y, 2, 0, 1, 7);
    }

    private static void refusals() {
        CrownlessDays x = Check.with("ab3", "a9c1b;b0o4.");
        int[] nobody = {-1, 2, 7, 8, Integer.MIN_VALUE, Integer.MAX_VALUE};
        for (int p : nobody) {
            Check.due("rides of nobody", x.rides(p, 0), CrownlessDays.BAD);
        }
        int[] nothing = {-1, 3, Integer.MIN_VALUE, Integer.MAX_VALUE};
        for (int what : nothing) {
            Check.due("rides what", x.rides(0, what), CrownlessDays.BAD);
        }
        Check.due("lost(-1)", x.lost(-1), CrownlessDays.BAD);
        Check.due("lost(2)", x.lost(2), CrownlessDays.BAD);
    }
}
