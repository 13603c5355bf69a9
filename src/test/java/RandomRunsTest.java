import java.util.Random;

/** Random runs of calls, each answered by the class and by the plain model. The seeds are fixed. */
public final class RandomRunsTest {
    private static Random lots;
    private static CrownlessDays x;
    private static Model m;
    private static String run;

    public static void main(String[] args) {
        for (int seed = 0; seed < 400 && Check.wrongSoFar() < 20; seed++) {
            oneRun(seed);
        }
        Check.end();
    }

    private static void oneRun(int seed) {
        lots = new Random(seed);
        x = new CrownlessDays();
        m = new Model();
        run = "seed " + seed + ": ";
        typeIn(0, randomRoads());
        typeIn(1, randomPersons());
        for (int i = 0; i < 150; i++) {
            oneCall();
        }
        for (int text = 0; text <= 1; text++) {
            due("fault " + text, x.fault(text), m.fault(text));
        }
        for (int what = 0; what <= 8; what++) {
            due("count " + what, x.count(what), m.count(what));
        }
    }

    private static void due(String call, long got, long want) {
        Check.due(run + call, got, want);
    }

    private static void typeIn(int text, String bytes) {
        for (int i = 0; i < bytes.length(); i++) {
            due("type", x.type(text, bytes.charAt(i)), m.type(text, bytes.charAt(i)));
        }
    }

    private static char letter(int towns) {
        return (char) ('a' + lots.nextInt(towns));
    }

    private static String randomRoads() {
        StringBuilder s = new StringBuilder();
        int n = lots.nextInt(13), towns = 2 + lots.nextInt(7);
        for (int i = 0; i < n; i++) {
            char a = letter(towns), b = letter(towns);
            b = a == b ? (char) (a == 'a' ? 'b' : a - 1) : b;
            s.append(i == 0 ? "" : ";").append(a).append(b).append(1 + lots.nextInt(9));
        }
        return s.toString();
    }

    private static String randomPersons() {
        StringBuilder s = new StringBuilder();
        int n = lots.nextInt(9), towns = 1 + lots.nextInt(8);
        for (int i = 0; i < n; i++) {
            char score = lots.nextInt(6) == 0 ? '.' : letter(lots.nextInt(8) == 0 ? 8 : n);
            s.append(i == 0 ? "" : ";").append(letter(towns)).append(lots.nextInt(10)).append("obc".charAt(lots.nextInt(3)));
            s.append(lots.nextInt(10)).append(score);
        }
        return s.toString();
    }

    /** Mostly 0 to most, at times just outside it or far off. */
    private static int about(int most) {
        int kind = lots.nextInt(40);
        if (kind == 0) {
            return -1;
        }
        if (kind == 1) {
            return most + 1;
        }
        return kind == 2 ? lots.nextInt() : lots.nextInt(most + 1);
    }

    private static void oneCall() {
        switch (lots.nextInt(12)) {
            case 0 -> textCall();
            case 1, 2 -> {
                int what = about(5), v = about(what == 5 ? 255 : what == 1 || what == 2 ? 9 : 7);
                due("set " + what + " " + v, x.set(what, v), m.set(what, v));
            }
            case 3, 4 -> newsCall();
            case 5 -> scoreCall();
            case 6 -> planCall();
            case 7 -> seenCall();
            case 8 -> chanceCall();
            default -> sheetCall();
        }
    }

    private static void textCall() {
        int text = about(1);
        switch (lots.nextInt(8)) {
            case 0, 1 -> {
                String usual = "abcdefgh;123.ob";
                int b = lots.nextInt(8) == 0 ? about(255) : usual.charAt(lots.nextInt(usual.length()));
                due("type " + text + " " + b, x.type(text, b), m.type(text, b));
            }
            case 2, 3, 4 -> due("undo " + text, x.undo(text), m.undo(text));
            case 5 -> {
                due("wipe " + text, x.wipe(text), m.wipe(text));
                typeIn(text, text == 0 ? randomRoads() : text == 1 ? randomPersons() : "");
            }
            default -> due("fault " + text, x.fault(text), m.fault(text));
        }
    }

    private static void newsCall() {
        int a = about(7), b = about(7), what = about(2), day = about(99);
        switch (lots.nextInt(6)) {
            case 0 -> due("way " + a + " " + b, x.way(a, b), m.way(a, b));
            case 1, 2 -> due("hears " + a + " " + what, x.hears(a, what), m.hears(a, what));
            case 3 -> due("crowned", x.crowned(), m.crowned());
            case 4 -> due("road " + a + " " + what, x.road(a, what), m.road(a, what));
            default -> due("knew " + day, x.knew(day), m.knew(day));
        }
    }

    private static void scoreCall() {
        int p = about(7), what = about(2), which = about(4);
        due("rides " + p + " " + what, x.rides(p, what), m.rides(p, what));
        due("lost " + what, x.lost(what), m.lost(what));
        due("person " + p + " " + which, x.person(p, which), m.person(p, which));
    }

    private static void planCall() {
        int what = about(1);
        switch (lots.nextInt(6)) {
            case 0 -> due("swear " + what, x.swear(what), m.swear(what));
            case 1, 2, 3 -> due("place " + what, x.place(what), m.place(what));
            default -> due("litter " + what, x.litter(what), m.litter(what));
        }
    }

    private static void seenCall() {
        int p = about(7), won = about(1), s = about(3);
        switch (lots.nextInt(8)) {
            case 0 -> due("forget", x.forget(), m.forget());
            case 1 -> due("seen " + p + " " + won, x.seen(p, won), m.seen(p, won));
            case 2, 3 -> {
                int did = m.rides(p, 1) == 1 ? 1 : 0;
                due("seen " + p + " " + did, x.seen(p, did), m.seen(p, did));
            }
            case 4 -> due("read " + s, x.read(s), m.read(s));
            case 5 -> due("ask", x.ask(), m.ask());
            default -> due("fits " + won, x.fits(won), m.fits(won));
        }
    }

    private static void chanceCall() {
        int c = about(16), town = about(7), day = about(lots.nextBoolean() ? 99 : 30), what = about(1);
        if (lots.nextInt(3) == 0) {
            String call = "out " + c + " " + town + " " + day + " " + what;
            due(call, x.out(c, town, day, what), m.out(c, town, day, what));
        } else {
            int seed = lots.nextInt(), n = about(20), t = lots.nextInt(3) == 0 ? -1 : town;
            due("reigns " + seed + " " + n + " " + t, x.reigns(seed, n, t), m.reigns(seed, n, t));
        }
    }

    private static void sheetCall() {
        int s = about(3), t = about(3), form = about(2), i = about(9), j = about(9), n = about(6), what = about(1);
        int v = lots.nextBoolean() ? lots.nextInt(3) : lots.nextInt();
        int of = s >= 0 && s < 4 && lots.nextInt(4) > 0 ? m.forms[s] : form;
        switch (lots.nextInt(10)) {
            case 0 -> {
                int size = lots.nextInt(4) == 0 ? about(60) : n + 6;
                due("sheet " + s + " " + form + " " + size, x.sheet(s, form, size), m.sheet(s, form, size));
            }
            case 1 -> {
                if (lots.nextInt(4) == 0) {
                    due("lose " + s, x.lose(s), m.lose(s));
                }
            }
            case 2, 3, 4 -> due("lay " + s + " " + of + " " + i + " " + v, x.lay(s, of, i, v), m.lay(s, of, i, v));
            case 5, 6 -> due("get " + s + " " + of + " " + i, x.get(s, of, i), m.get(s, of, i));
            case 7 -> due("copy " + s + " " + i + " " + t + " " + j + " " + n, x.copy(s, i, t, j, n), m.copy(s, i, t, j, n));
            case 8 -> due("write " + what + " " + s, x.write(what, s), m.write(what, s));
            default -> due("count " + i, x.count(i), m.count(i));
        }
    }
}
