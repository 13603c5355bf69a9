/** rides: when a person comes, what comes of it, how rich it is in the end. */
public final class Promise13Test extends Promise {
    private static final int STAYS = 0, WINS = 1, BEATEN = 2, TOO_LATE = 3;

    public static void main(String[] args) {
        whoStays();
        whenItComes();
        tooLate();
        guards();
        riches();
        refusals();
        Check.end();
    }

    private static void ride(CrownlessDays x, int p, int comes, int fate, int rich) {
        due("rides(" + p + ", 0)", x.rides(p, 0), comes);
        due("rides(" + p + ", 1)", x.rides(p, 1), fate);
        due("rides(" + p + ", 2)", x.rides(p, 2), rich);
    }

    private static void whoStays() {
        test(13, "with no SCORE it does not RIDE", () -> ride(neverCrowned("", "a9b4.;a0o1."), 0, NONE, STAYS, 4));
        test(13, "against itself it does not RIDE", () -> {
            ride(neverCrowned("", "a9b4a"), 0, NONE, STAYS, 4);
            ride(neverCrowned("", "a0o1.;a9b4b"), 1, NONE, STAYS, 4);
        });
        test(13, "against one that there is not it does not RIDE", () -> {
            ride(neverCrowned("", "a9b4b"), 0, NONE, STAYS, 4);
            ride(neverCrowned("", "a9b4c;a0o1."), 0, NONE, STAYS, 4);
            ride(neverCrowned("", "a9b4h;a0o1."), 0, NONE, STAYS, 4);
        });
        test(13, "one that there was and is undone is not there", () -> {
            CrownlessDays x = neverCrowned("", "a9b4b;a0o1.");
            ride(x, 0, 0, WINS, 5);
            for (int i = 0; i < 6; i++) {
                x.undo(1);
            }
            ride(x, 0, NONE, STAYS, 4);
        });
        test(13, "one that is undone does not RIDE", () -> {
            CrownlessDays x = neverCrowned("", "a0o1.;a9b4a");
            due("lost(0)", x.lost(0), 1);
            for (int i = 0; i < 6; i++) {
                x.undo(1);
            }
            due("rides(1, 1)", x.rides(1, 1), BAD);
            ride(x, 0, NONE, STAYS, 1);
        });
        test(13, "the last of 8 is one that there is", () ->
                ride(neverCrowned("", "a9b4h;a0o0.;a0o0.;a0o0.;a0o0.;a0o0.;a0o0.;a0o5."), 0, 0, WINS, 9));
        test(13, "whose TOWN never HEARS does not RIDE", () ->
                ride(neverCrowned("cd1", "c9b4b;d0o1."), 0, NONE, STAYS, 4));
        test(13, "with no WAY it does not RIDE, a coward neither", () -> {
            ride(neverCrowned("ab1", "a9b4b;c0o1."), 0, NONE, STAYS, 4);
            ride(neverCrowned("ab1", "a9c4b;c0o1."), 0, NONE, STAYS, 4);
        });
    }

    private static void whenItComes() {
        test(13, "it COMES on DAY 0 at the earliest", () -> ride(neverCrowned("", "a9o4b;a0o1."), 0, 0, WINS, 5));
        test(13, "it COMES when its TOWN HEARS and the WAY", () -> {
            CrownlessDays x = neverCrowned("ab2;bc3", "b9o4b;c0o1.");
            x.set(1, 5);
            x.set(2, 6);
            ride(x, 0, 16, WINS, 5);
        });
        test(13, "a coward COMES one DAY later", () -> {
            ride(neverCrowned("", "a9c4b;a0o1."), 0, 1, WINS, 5);
            ride(neverCrowned("ab2", "a9c4b;b0o1."), 0, 3, WINS, 5);
        });
        test(13, "a bold one COMES no later", () -> ride(neverCrowned("ab2", "a9b4b;b0o1."), 0, 2, WINS, 5));
        test(13, "DAY 145 is the latest", () -> {
            CrownlessDays x = with(LONGEST, "h9c4c;h9o5c;a0o1.");
            x.set(1, 9);
            x.set(2, 9);
            x.set(3, 7);
            due("hears(0, 1)", x.hears(0, 1), 145);
            ride(x, 0, 145, TOO_LATE, 4);
            ride(x, 1, 144, WINS, 6);
        });
    }

    private static void tooLate() {
        // Crowned at a on day 1, so that there is law at b from day 4 on.
        test(13, "on the DAY ahead of the LAW it is not TOO LATE", () -> ride(with("ab3", "a9o4b;b0o1."), 0, 3, WINS, 5));
        test(13, "on the DAY of the LAW it is TOO LATE", () -> {
            ride(with("ab3", "a9c4b;b0o1."), 0, 4, TOO_LATE, 4);
            ride(with("ab3;ac1;cb3", "c9o4b;b0o1."), 0, 4, TOO_LATE, 4);
        });
        test(13, "behind the DAY of the LAW it is TOO LATE", () ->
                ride(with("ab3;ac1;cb4", "c9o4b;b0o1."), 0, 5, TOO_LATE, 4));
        test(13, "the LAW of that one's TOWN counts, not of its own", () -> {
            CrownlessDays x = with("ab9", "b9o4b;b0o1.");
            ride(x, 0, 9, WINS, 5);
            x.set(3, 1);
            x.set(4, 1);
            ride(x, 0, 9, WINS, 5);
            // It leaves b when law is not there yet, and comes to a when it is.
            CrownlessDays y = with("ab9", "b9o4b;a0o1.");
            ride(y, 0, 18, TOO_LATE, 4);
        });
        test(13, "where there is never LAW it is never TOO LATE", () ->
                ride(neverCrowned(LONGEST.substring(0, 23), "g9o4b;a0o1."), 0, 108, WINS, 5));
        test(13, "in a TOWN that is SWORN it is TOO LATE, TOWN 0 and 7 too", () -> {
            for (int t = 0; t < 8; t++) {
                char town = (char) ('a' + t);
                CrownlessDays x = with("", town + "9o4b;" + town + "0o1.");
                x.set(0, t);
                x.set(5, 1 << t);
                ride(x, 0, 0, TOO_LATE, 4);
                x.set(5, 255 - (1 << t));
                ride(x, 0, 0, WINS, 5);
            }
        });
        test(13, "its own TOWN SWORN does not hold it", () -> {
            CrownlessDays x = neverCrowned("ab3", "a9o4b;b0o1.");
            x.set(5, 1);
            ride(x, 0, 3, WINS, 5);
        });
        test(13, "TOO LATE is ahead of BEATEN", () -> {
            CrownlessDays x = with("", "a0o4b;a9o1.");
            ride(x, 0, 0, BEATEN, 4);
            x.set(5, 1);
            ride(x, 0, 0, TOO_LATE, 4);
        });
    }

    /** One rides against another in a town that hears on that very day. */
    private static void meet(String rider, String other, int fate) {
        CrownlessDays x = neverCrowned("", "a" + rider + "4b;a" + other + "1.");
        due("rides(0, 1), " + rider + " against " + other, x.rides(0, 1), fate);
    }

    private static void guards() {
        test(13, "GUARD that is not more is BEATEN", () -> {
            meet("2o", "0o", BEATEN);
            meet("9o", "7o", BEATEN);
            meet("0o", "0o", BEATEN);
            meet("0o", "9o", BEATEN);
        });
        test(13, "GUARD that is one more WINS", () -> {
            meet("3o", "0o", WINS);
            meet("9o", "6o", WINS);
        });
        test(13, "a bold one's GUARD is 2 more", () -> {
            meet("0b", "0o", BEATEN);
            meet("1b", "0o", WINS);
            meet("9b", "9o", BEATEN);
            meet("9b", "8o", WINS);
        });
        test(13, "a coward's GUARD is as it is", () -> {
            meet("2c", "0o", BEATEN);
            meet("3c", "0o", WINS);
        });
        test(13, "ridden against, a bold one's GUARD and a coward's are as they are", () -> {
            meet("2o", "0b", BEATEN);
            meet("3o", "0b", WINS);
            meet("2o", "0c", BEATEN);
            meet("3o", "0c", WINS);
        });
        test(13, "2 more if that one's TOWN HEARS on that DAY or ahead", () -> {
            CrownlessDays x = neverCrowned("ab3;ac1;cb3", "a2o1c;c2o1c;b0o1.;a3o1c;c3o1c");
            due("hears(1, 0)", x.hears(1, 0), 3);
            ride(x, 0, 3, BEATEN, 1);
            ride(x, 1, 4, BEATEN, 1);
            due("rides(3, 0)", x.rides(3, 0), 3);
            due("rides(3, 1)", x.rides(3, 1), WINS);
            due("rides(4, 0)", x.rides(4, 0), 4);
            due("rides(4, 1)", x.rides(4, 1), WINS);
        });
    }

    private static void riches() {
        test(13, "who does not RIDE, is BEATEN or TOO LATE has its own", () -> {
            CrownlessDays x = with("", "a9o4.;a0o5a;b9o6a");
            ride(x, 0, NONE, STAYS, 4);
            ride(x, 1, 0, BEATEN, 5);
            x.set(5, 1);
            ride(x, 1, 0, TOO_LATE, 5);
            ride(x, 2, NONE, STAYS, 6);
        });
        test(13, "who WINS has all, and that one nothing", () -> {
            CrownlessDays x = neverCrowned("", "a9o9b;a0o9.");
            ride(x, 0, 0, WINS, 18);
            ride(x, 1, NONE, STAYS, 0);
        });
        test(13, "of nothing there is nothing to have", () -> {
            CrownlessDays x = neverCrowned("", "a9o0b;a0o0.");
            ride(x, 0, 0, WINS, 0);
            ride(x, 1, NONE, STAYS, 0);
        });
        test(13, "of like DAYS the least is ahead", () -> {
            CrownlessDays x = neverCrowned("", "a9o1c;a9o2c;a0o4.");
            ride(x, 0, 0, WINS, 5);
            ride(x, 1, 0, WINS, 2);
            CrownlessDays y = neverCrowned("", "a9o1b;a4o2c;a0o4.");
            ride(y, 0, 0, WINS, 3);
            ride(y, 1, 0, WINS, 4);
        });
        test(13, "an earlier DAY is ahead, be it a greater PERSON's", () -> {
            CrownlessDays x = neverCrowned("", "a9c1c;a9o2c;a0o4.");
            ride(x, 0, 1, WINS, 1);
            ride(x, 1, 0, WINS, 6);
            ride(x, 2, NONE, STAYS, 0);
        });
        test(13, "what that one has then, with what it has won by then", () -> {
            CrownlessDays x = neverCrowned("", "a9c1b;a4o2c;a0o4.");
            ride(x, 0, 1, WINS, 7);
            ride(x, 1, 0, WINS, 0);
        });
        test(13, "who was robbed may win behind that", () -> {
            CrownlessDays x = neverCrowned("", "a9o1b;a4c2c;a0o4.");
            ride(x, 0, 0, WINS, 3);
            ride(x, 1, 1, WINS, 4);
        });
        test(13, "72 is the most", () -> {
            CrownlessDays x = neverCrowned("", "a2b9.;a3b9a;a4b9b;a5b9c;a6b9d;a7b9e;a8b9f;a9b9g");
            due("rides(0, 2)", x.rides(0, 2), 0);
            due("rides(6, 2)", x.rides(6, 2), 0);
            ride(x, 7, 0, WINS, 72);
        });
    }

    private static void refusals() {
        test(13, "a PERSON that there is not is BAD", () -> {
            for (int w = 0; w < 3; w++) {
                int what = w;
                refused("rides(5, " + what + ") of five", BAD, x -> x.rides(5, what));
                refused("rides(8, " + what + ") of eight", BAD, Promise::full, x -> x.rides(8, what));
                refused("rides(most, " + what + ")", BAD, x -> x.rides(MOST, what));
                due("rides(0, " + what + ") of none", new CrownlessDays().rides(0, what), BAD);
            }
        });
        test(13, "a PERSON below 0 is BAD", () -> {
            refused("rides(-1, 0)", BAD, x -> x.rides(-1, 0));
            refused("rides(least, 2)", BAD, x -> x.rides(LEAST, 2));
        });
        test(13, "what below 0 is BAD", () -> {
            refused("rides(0, -1)", BAD, x -> x.rides(0, -1));
            refused("rides(0, least)", BAD, x -> x.rides(0, LEAST));
        });
        test(13, "what above 2 is BAD", () -> {
            refused("rides(0, 3)", BAD, x -> x.rides(0, 3));
            refused("rides(0, most)", BAD, x -> x.rides(0, MOST));
        });
    }
}
