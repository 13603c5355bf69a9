/** Counts the answers that are not as due, and makes objects with texts typed in. */
final class Check {
    private static int asked = 0;
    private static int wrong = 0;

    private Check() {
    }

    static void due(String call, long got, long want) {
        asked++;
        if (got != want) {
            wrong++;
            System.out.println(call + " answered " + got + ", due is " + want);
        }
    }

    static void holds(String what, boolean holds) {
        asked++;
        if (!holds) {
            wrong++;
            System.out.println("does not hold: " + what);
        }
    }

    static int wrongSoFar() {
        return wrong;
    }

    static int askedSoFar() {
        return asked;
    }

    /** Ends the test: exit code 1 if one answer was wrong or nothing was asked. */
    static void end() {
        System.out.println("  " + asked + " answers, " + wrong + " not as due");
        if (wrong != 0 || asked == 0) {
            System.exit(1);
        }
    }

    static void typeIn(CrownlessDays x, int text, String bytes) {
        int had = x.count(2 + text);
        for (int i = 0; i < bytes.length(); i++) {
            due("type(" + text + ", " + (int) bytes.charAt(i) + ")", x.type(text, bytes.charAt(i)), had + i + 1);
        }
    }

    static CrownlessDays with(String roads, String persons) {
        CrownlessDays x = new CrownlessDays();
        typeIn(x, 0, roads);
        typeIn(x, 1, persons);
        return x;
    }

    /** Puts a row into a sheet of ints, so that a test can read it from there. */
    static void layAll(CrownlessDays x, int s, int... items) {
        due("sheet", x.sheet(s, 2, items.length), items.length);
        for (int i = 0; i < items.length; i++) {
            due("lay", x.lay(s, 2, i, items[i]), 1);
        }
    }
}
