/** Promises 15 to 17: the towns that swear, the place of the crown, the litter. */
public final class PlansTest {
    public static void main(String[] args) {
        swear();
        placeByWins();
        placeByDayThenTown();
        placeWhenNeverCrowned();
        litter();
        refusals();
        Check.end();
    }

    private static void swear() {
        CrownlessDays x = Check.with("ab3;ac2;ah9", "a9o1b;b0o4c;c0o2.;c9b3b;a9b1c");
        x.set(4, 7);
        Check.due("swear(0)", x.swear(0), 2);
        Check.due("swear(1)", x.swear(1), 2 + 4);
        // In place of those that are sworn: what is sworn does not count.
        x.set(5, 4);
        Check.due("lost(0)", x.lost(0), 2);
        Check.due("swear(0)", x.swear(0), 2);
        Check.due("swear(1)", x.swear(1), 2 + 4);
        Check.due("sworn stay", x.count(6), 4);
        x.set(5, x.swear(1));
        Check.due("lost(0) when sworn", x.lost(0), 0);
        CrownlessDays first = Check.with("ah9", "a9o1b;a0o4.");
        first.set(4, 7);
        Check.due("swear(0) of person 0 and town 0", first.swear(0), 1);
        Check.due("swear(1) of person 0 and town 0", first.swear(1), 1);
        CrownlessDays y = Check.with("ab3", "a1o1b;b0o4.");
        Check.due("swear(0) of none", y.swear(0), 0);
        Check.due("swear(1) of none", y.swear(1), 0);
    }

    private static void placeByWins() {
        // To b on day 5. With the heir at a law comes to b in time only from b, or from c on the way.
        CrownlessDays x = Check.with("ac2;cb3;ad1", "a9o1b;b0o4.");
        Check.due("crowned at a: comes", x.rides(0, 0), 5);
        Check.due("lost(0)", x.lost(0), 1);
        Check.due("place(1)", x.place(1), 1);
        Check.due("place(0)", x.place(0), 0);
        CrownlessDays y = Check.with("ac2;cb3;ad1;db3", "a9c1b;b0o4.");
        // A coward comes on day 5; crowned at a on day 1, law at b on day 5: too late.
        Check.due("comes", y.rides(0, 0), 5);
        Check.due("place(0)", y.place(0), 0);
        Check.due("place(1)", y.place(1), 0);
        y.set(3, 1);
        // The heir is at b: crowned there on day 5; anywhere else is later than that.
        Check.due("place(0)", y.place(0), 1);
        Check.due("place(1)", y.place(1), 0);
        y.set(4, 6);
        Check.due("in place of its own", y.place(0), 1);
        Check.due("lost(0) at g", y.lost(0), 1);
        y.set(5, 2);
        Check.due("sworn stay in force", y.place(1), 0);
    }

    private static void placeByDayThenTown() {
        CrownlessDays x = Check.with("ab3;bc1;cd1", "");
        x.set(3, 2);
        Check.due("soonest where the heir is", x.place(0), 2);
        // Won in any case but if crowned at d or h: a way of 1 each, the least is d.
        CrownlessDays y = Check.with("ad1;ah1;ac2;db1;hb1;cb1", "a9o1b;b0o4.");
        Check.due("comes", y.rides(0, 0), 2);
        Check.due("place(1)", y.place(1), 1);
        Check.due("place(0)", y.place(0), 0);
        CrownlessDays z = Check.with("ad1;ah1;dh1;db9;hb9", "b9o1b;b0o4.");
        Check.due("nobody wins: the heir's own town", z.place(0), 0);
        // The heir at a; law at d and at h at once would need two crowns: each saves one of two.
        CrownlessDays w = Check.with("ad9;ah9", "d9o1c;h9o1d;d0o1.;h0o1.");
        w.set(3, 3);
        w.set(0, 3);
        Check.due("comes at once", w.rides(0, 0), 0);
        Check.due("place(1)", w.place(1), 2);
        Check.due("place(0)", w.place(0), 3);
    }

    private static void placeWhenNeverCrowned() {
        CrownlessDays x = Check.with("ab1", "");
        x.set(3, 5);
        Check.due("never: the least town", x.place(0), 0);
        CrownlessDays y = Check.with("bc1", "");
        y.set(0, 2);
        y.set(3, 2);
        Check.due("never is later than any", y.place(0), 2);
        y.set(3, 1);
        Check.due("the heir's own town", y.place(0), 1);
    }

    private static void litter() {
        CrownlessDays x = Check.with("ab3;ac2;ah9", "a9o1b;b0o4c;c0o2.;c9b3b;a9b1c");
        x.set(4, 7);
        x.set(2, 4);
        Check.due("litter(0)", x.litter(0), 0);
        Check.due("litter(1)", x.litter(1), 3);
        x.set(5, 2);
        Check.due("litter(1), sworn", x.litter(1), 1);
        Check.due("what is told stays", x.set(2, 0), 4);
    }

    private static void refusals() {
        CrownlessDays x = new CrownlessDays();
        int[] nothing = {-1, 2, Integer.MIN_VALUE, Integer.MAX_VALUE};
        for (int what : nothing) {
            Check.due("swear what", x.swear(what), CrownlessDays.BAD);
            Check.due("place what", x.place(what), CrownlessDays.BAD);
            Check.due("litter what", x.litter(what), CrownlessDays.BAD);
        }
        Check.due("litter(1) of nobody", x.litter(1), 0);
        Check.due("place(1) of nobody", x.place(1), 0);
    }
}
