import java.math.BigInteger;

/** Promises 23 and 24: roads that are out by chance, reigns by a seed. */
public final class ChanceTest {
    public static void main(String[] args) {
        oneRoad();
        twoRoads();
        days();
        manyRoads();
        outRefusals();
        lots();
        reignsRefusals();
        Check.end();
    }

    private static void out(CrownlessDays x, int c, int town, int day, long above, long below) {
        String call = "out(" + c + ", " + town + ", " + day;
        Check.due(call + ", 0)", x.out(c, town, day, 0), above);
        Check.due(call + ", 1)", x.out(c, town, day, 1), below);
    }

    private static void oneRoad() {
        CrownlessDays x = Check.with("ab3", "");
        out(x, 0, 1, 3, 1, 1);
        out(x, 4, 1, 3, 3, 4);
        out(x, 5, 1, 3, 11, 16);
        out(x, 16, 1, 99, 0, 1);
        out(x, 15, 1, 99, 1, 16);
        out(x, 5, 1, 2, 0, 1);
        out(x, 5, 0, 0, 1, 1);
        out(x, 5, 2, 99, 0, 1);
    }

    private static void twoRoads() {
        CrownlessDays x = Check.with("ab3;ab5", "");
        out(x, 8, 1, 5, 3, 4);
        out(x, 8, 1, 4, 1, 2);
        CrownlessDays y = Check.with("ab3;bc2", "");
        out(y, 8, 2, 5, 1, 4);
        out(y, 1, 2, 5, 225, 256);
        CrownlessDays z = Check.with("ab1;bd1;ac1;cd1;bc1", "");
        // Two ways of two: 1/4 + 1/4 - 1/16; with the bridge, three days, two of three roads more each.
        out(z, 8, 3, 2, 7, 16);
        out(z, 8, 3, 3, 1, 2);
    }

    private static void days() {
        CrownlessDays x = Check.with("ab3", "");
        x.set(1, 9);
        x.set(2, 9);
        out(x, 4, 0, 17, 0, 1);
        out(x, 4, 0, 18, 1, 1);
        out(x, 4, 1, 20, 0, 1);
        out(x, 4, 1, 21, 3, 4);
        x.set(1, 4);
        out(x, 4, 1, 15, 0, 1);
        out(x, 4, 1, 16, 3, 4);
        x.set(1, 9);
        x.set(0, 1);
        out(x, 4, 0, 21, 3, 4);
        out(x, 4, 1, 18, 1, 1);
    }

    private static void manyRoads() {
        String twelve = "ab1;ab1;ab1;ab1;ab1;ab1;ab1;ab1;ab1;ab1;ab1;ab1";
        CrownlessDays x = Check.with(twelve, "");
        long all = 1L << 48;
        long none = BigInteger.valueOf(15).pow(12).longValueExact();
        out(x, 15, 1, 1, all - none, all);
        out(x, 8, 1, 1, 4095, 4096);
        out(x, 0, 1, 1, 1, 1);
        out(x, 16, 1, 1, 0, 1);
        CrownlessDays y = Check.with("ab9;bc9;cd9;de9;ef9;fg9;gh9;ah9;ah9;ah9;ah9;ah9", "");
        long odd = BigInteger.valueOf(15).pow(7).longValueExact();
        // a to h in nine days: one of five roads, or all the way round in 63.
        out(y, 1, 7, 9, (1L << 20) - 1, 1L << 20);
        out(y, 1, 7, 62, (1L << 20) - 1, 1L << 20);
        out(y, 1, 7, 63, (1L << 48) - ((1L << 28) - odd), 1L << 48);
    }

    private static void outRefusals() {
        CrownlessDays x = Check.with("ab3", "");
        long bad = Long.MIN_VALUE + 2;
        Check.due("c -1", x.out(-1, 0, 0, 0), bad);
        Check.due("c 17", x.out(17, 0, 0, 0), bad);
        Check.due("town -1", x.out(0, -1, 0, 0), bad);
        Check.due("town 8", x.out(0, 8, 0, 0), bad);
        Check.due("day -1", x.out(0, 0, -1, 0), bad);
        Check.due("day 100", x.out(0, 0, 100, 0), bad);
        Check.due("what -1", x.out(0, 0, 0, -1), bad);
        Check.due("what 2", x.out(0, 0, 0, 2), bad);
    }

    /** The lots by another reckoning: as longs, cut to 32 bits. */
    private static void lots() {
        String roads = "ab2;bc3;cd1;ad9;de2;fg4;gh1";
        String persons = "a5o3b;b2o7c;c4b1a;d3c9b;e9o5d;f9b2g;g0o4.";
        int[] seeds = {0, 1, 7, -1, 123456789, Integer.MIN_VALUE, Integer.MAX_VALUE};
        for (int seed : seeds) {
            CrownlessDays x = Check.with(roads, persons);
            x.set(1, 4);
            x.set(4, 2);
            x.set(5, 2);
            CrownlessDays y = Check.with(roads, persons);
            y.set(1, 4);
            y.set(4, 2);
            y.set(5, 2);
            int wins = 0;
            int[] days = new int[8];
            long s = seed & 0xFFFFFFFFL;
            for (int n = 1; n <= 20; n++) {
                int[] modulus = {8, 8, 10};
                int[] what = {0, 3, 2};
                for (int k = 0; k < 3; k++) {
                    s = (1103515245L * s + 12345L) & 0xFFFFFFFFL;
                    y.set(what[k], (int) ((s >> 16) % modulus[k]));
                }
                wins += y.lost(0);
                Check.due("reigns(" + seed + ", " + n + ", NONE)", x.reigns(seed, n, CrownlessDays.NONE), wins);
                for (int t = 0; t < 8; t++) {
                    days[t] += Math.max(0, y.hears(t, 2));
                    Check.due("reigns(" + seed + ", " + n + ", " + t + ")", x.reigns(seed, n, t), days[t]);
                }
            }
            Check.due("told is as it was", x.set(0, 0) + x.set(2, 0) + x.set(3, 0), 0);
            Check.due("told is as it was", x.set(4, 0), 2);
        }
    }

    private static void reignsRefusals() {
        CrownlessDays x = Check.with("ab3", "");
        Check.due("n 0", x.reigns(1, 0, 0), CrownlessDays.BAD);
        Check.due("n -1", x.reigns(1, -1, 0), CrownlessDays.BAD);
        Check.due("n 21", x.reigns(1, 21, 0), CrownlessDays.BAD);
        Check.due("town 8", x.reigns(1, 1, 8), CrownlessDays.BAD);
        Check.due("town -2", x.reigns(1, 1, -2), CrownlessDays.BAD);
        Check.due("town -1", x.reigns(1, 1, -1), 0);
    }
}
