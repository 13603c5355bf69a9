import java.math.BigInteger;
import java.util.ArrayList;
import java.util.Arrays;
import java.util.HashMap;
import java.util.List;
import java.util.Map;
import java.util.regex.Pattern;

/** The document once more, as slowly and plainly as it reads: the test of random runs asks both. */
final class Model {
    private static final int NEVER = 1_000_000;
    private static final Pattern ROADS = Pattern.compile("|[a-h][a-h][1-9](;[a-h][a-h][1-9])*");
    private static final Pattern PERSONS = Pattern.compile("|[a-h]\\d[obc]\\d[a-h.](;[a-h]\\d[obc]\\d[a-h.])*");

    final StringBuilder[] texts = {new StringBuilder(), new StringBuilder()};
    int[] told = new int[6];
    final List<int[]> seen = new ArrayList<>();
    final int[][] rows = new int[4][];
    final int[] forms = new int[4];
    int finding;

    private record Ride(int comes, int fate) {
    }

    // ---- texts

    int type(int text, int b) {
        if (text != 0 && text != 1 || b < 0 || b > 255) {
            return -2;
        }
        if (texts[text].length() == 47) {
            return -4;
        }
        return texts[text].append((char) b).length();
    }

    int wipe(int text) {
        if (text != 0 && text != 1) {
            return -2;
        }
        int had = texts[text].length();
        texts[text].setLength(0);
        return had;
    }

    int undo(int text) {
        if (text != 0 && text != 1) {
            return -2;
        }
        if (texts[text].length() == 0) {
            return -3;
        }
        texts[text].setLength(texts[text].length() - 1);
        return texts[text].length();
    }

    private static boolean isWhole(int text, String s) {
        if (text == 1) {
            return PERSONS.matcher(s).matches();
        }
        if (!ROADS.matcher(s).matches()) {
            return false;
        }
        for (String road : s.split(";")) {
            if (!road.isEmpty() && road.charAt(0) == road.charAt(1)) {
                return false;
            }
        }
        return true;
    }

    /** A beginning can go on if one of these endings makes it whole. */
    private static boolean canGoOn(int text, String s) {
        String[] endings = text == 0
                ? new String[] {"", "1", "a1", "b1", "ab1"}
                : new String[] {"", ".", "1.", "o1.", "1o1.", "a1o1."};
        for (String ending : endings) {
            if (isWhole(text, s + ending)) {
                return true;
            }
        }
        return false;
    }

    int fault(int text) {
        if (text != 0 && text != 1) {
            return -2;
        }
        String s = texts[text].toString();
        for (int n = 1; n <= s.length(); n++) {
            if (!canGoOn(text, s.substring(0, n))) {
                return n - 1;
            }
        }
        return isWhole(text, s) ? -1 : s.length();
    }

    private List<String> items(int text) {
        if (texts[text].length() == 0 || fault(text) != -1) {
            return List.of();
        }
        return List.of(texts[text].toString().split(";"));
    }

    int road(int road, int what) {
        List<String> all = items(0);
        if (road < 0 || road >= all.size() || what < 0 || what > 2) {
            return -2;
        }
        return all.get(road).charAt(what) - (what < 2 ? 'a' : '0');
    }

    int person(int person, int what) {
        List<String> all = items(1);
        if (person < 0 || person >= all.size() || what < 0 || what > 4) {
            return -2;
        }
        char c = all.get(person).charAt(what);
        return switch (what) {
            case 0 -> c - 'a';
            case 1, 3 -> c - '0';
            case 2 -> "obc".indexOf(c);
            default -> c == '.' ? -1 : c - 'a';
        };
    }

    int set(int what, int v) {
        int[] most = {7, 9, 9, 7, 7, 255};
        if (what < 0 || what > 5 || v < 0 || v > most[what]) {
            return -2;
        }
        int was = told[what];
        told[what] = v;
        return was;
    }

    // ---- news

    /** Days from a town to all, the roads being those of a list; each round lets news go one road more. */
    private static int[] spread(List<String> roads, int from) {
        int[] days = new int[8];
        Arrays.fill(days, NEVER);
        days[from] = 0;
        for (int round = 0; round < 8; round++) {
            for (String r : roads) {
                int a = r.charAt(0) - 'a', b = r.charAt(1) - 'a', d = r.charAt(2) - '0';
                days[b] = Math.min(days[b], days[a] + d);
                days[a] = Math.min(days[a], days[b] + d);
            }
        }
        return days;
    }

    private int days(int a, int b) {
        return spread(items(0), a)[b];
    }

    private static int orNone(int day) {
        return day >= NEVER ? -1 : day;
    }

    private static boolean town(int t) {
        return t >= 0 && t < 8;
    }

    int way(int a, int b) {
        return town(a) && town(b) ? orNone(days(a, b)) : -2;
    }

    private int heard(int t) {
        return told[1] + told[2] + days(told[0], t);
    }

    private int crowning() {
        return heard(told[3]) + days(told[3], told[4]) + 1;
    }

    private int law(int t) {
        return crowning() + days(told[4], t);
    }

    int hears(int t, int what) {
        if (!town(t) || what < 0 || what > 2) {
            return -2;
        }
        if (what < 2) {
            return orNone(what == 0 ? heard(t) : law(t));
        }
        if (heard(t) >= NEVER) {
            return 0;
        }
        return law(t) >= NEVER ? -1 : Math.max(0, law(t) - heard(t));
    }

    int crowned() {
        return orNone(crowning());
    }

    int knew(int day) {
        if (day < 0 || day > 99) {
            return -2;
        }
        int bits = 0;
        for (int t = 0; t < 8; t++) {
            bits += heard(t) <= day ? 1 << t : 0;
        }
        return bits;
    }

    // ---- scores

    private Ride ride(int p) {
        int foe = person(p, 4), n = items(1).size();
        if (foe < 0 || foe >= n || foe == p) {
            return new Ride(-1, 0);
        }
        int home = person(p, 0), there = person(foe, 0);
        int day = heard(home) + days(home, there) + (person(p, 2) == 2 ? 1 : 0);
        if (day >= NEVER) {
            return new Ride(-1, 0);
        }
        if (day >= law(there) || (told[5] >> there) % 2 == 1) {
            return new Ride(day, 3);
        }
        int mine = person(p, 1) + (person(p, 2) == 1 ? 2 : 0);
        int others = person(foe, 1) + (heard(there) <= day ? 2 : 0);
        return new Ride(day, mine > others ? 1 : 2);
    }

    int rides(int p, int what) {
        int n = items(1).size();
        if (p < 0 || p >= n || what < 0 || what > 2) {
            return -2;
        }
        if (what < 2) {
            return what == 0 ? ride(p).comes() : ride(p).fate();
        }
        int[] rich = new int[n];
        Ride[] all = new Ride[n];
        for (int i = 0; i < n; i++) {
            rich[i] = person(i, 3);
            all[i] = ride(i);
        }
        for (int day = 0; day < 400; day++) {
            for (int i = 0; i < n; i++) {
                if (all[i].comes() == day && all[i].fate() == 1) {
                    rich[i] += rich[person(i, 4)];
                    rich[person(i, 4)] = 0;
                }
            }
        }
        return rich[p];
    }

    private int wins() {
        int wins = 0;
        for (int p = 0; p < items(1).size(); p++) {
            wins += ride(p).fate() == 1 ? 1 : 0;
        }
        return wins;
    }

    int lost(int what) {
        if (what != 0 && what != 1) {
            return -2;
        }
        int last = -1;
        for (int p = 0; p < items(1).size(); p++) {
            if (ride(p).fate() == 1) {
                last = Math.max(last, ride(p).comes());
            }
        }
        return what == 0 ? wins() : last;
    }

    // ---- plans

    private int winsWith(int what, int v) {
        int was = told[what];
        told[what] = v;
        int wins = wins();
        told[what] = was;
        return wins;
    }

    int swear(int what) {
        if (what != 0 && what != 1) {
            return -2;
        }
        for (int size = 0; size <= 8; size++) {
            for (int bits = 0; bits < 256; bits++) {
                if (Integer.bitCount(bits) == size && winsWith(5, bits) == 0) {
                    return what == 0 ? size : bits;
                }
            }
        }
        throw new IllegalStateException("with all sworn nobody wins");
    }

    int place(int what) {
        if (what != 0 && what != 1) {
            return -2;
        }
        List<long[]> all = new ArrayList<>();
        int own = told[4];
        for (int t = 0; t < 8; t++) {
            told[4] = t;
            all.add(new long[] {wins(), Math.min(NEVER, crowning()), t});
        }
        told[4] = own;
        all.sort(Arrays::compare);
        return (int) all.get(0)[what == 0 ? 2 : 0];
    }

    int litter(int what) {
        if (what != 0 && what != 1) {
            return -2;
        }
        List<int[]> all = new ArrayList<>();
        for (int days = 0; days < 10; days++) {
            all.add(new int[] {winsWith(2, days), days});
        }
        all.sort(Arrays::compare);
        return all.get(0)[what == 0 ? 1 : 0];
    }

    // ---- seen

    int seen(int p, int won) {
        if (p < 0 || p > 7 || won < 0 || won > 1) {
            return -2;
        }
        if (seen.size() == 8) {
            return -4;
        }
        seen.add(new int[] {p, won});
        return seen.size();
    }

    int forget() {
        int n = seen.size();
        seen.clear();
        return n;
    }

    int read(int s) {
        if (s < 0 || s > 3) {
            return -2;
        }
        if (rows[s] == null) {
            return found(1);
        }
        int n = 0;
        while (2 * n + 1 < rows[s].length && seen(rows[s][2 * n], rows[s][2 * n + 1]) > 0) {
            n++;
        }
        return n;
    }

    int fits(int what) {
        if (what != 0 && what != 1) {
            return -2;
        }
        int which = what == 0 ? 2 : 0, was = told[which], bits = 0;
        for (int v = 0; v < (what == 0 ? 10 : 8); v++) {
            told[which] = v;
            boolean fits = true;
            for (int[] one : seen) {
                boolean won = one[0] < items(1).size() && ride(one[0]).fate() == 1;
                fits &= won == (one[1] == 1);
            }
            bits += fits ? 1 << v : 0;
        }
        told[which] = was;
        return bits;
    }

    int ask() {
        int where = fits(1), was = told[0], best = 0, least = 100;
        for (int t = 0; t < 8; t++) {
            Map<Integer, Integer> alike = new HashMap<>();
            for (int d = 0; d < 8; d++) {
                told[0] = d;
                if ((where >> d) % 2 == 1) {
                    alike.merge(hears(t, 0), 1, Integer::sum);
                }
            }
            int most = alike.values().stream().max(Integer::compare).orElse(0);
            if (most < least) {
                least = most;
                best = t;
            }
        }
        told[0] = was;
        return best;
    }

    // ---- chance, reigns

    long out(int c, int t, int day, int what) {
        if (c < 0 || c > 16 || !town(t) || day < 0 || day > 99 || what < 0 || what > 1) {
            return Long.MIN_VALUE + 2;
        }
        List<String> all = items(0);
        BigInteger above = BigInteger.ZERO, below = BigInteger.valueOf(16).pow(all.size());
        for (int set = 0; set < 1 << all.size(); set++) {
            List<String> stand = new ArrayList<>();
            for (int r = 0; r < all.size(); r++) {
                if ((set >> r) % 2 == 1) {
                    stand.add(all.get(r));
                }
            }
            if (told[1] + told[2] + spread(stand, told[0])[t] <= day) {
                above = above.add(BigInteger.valueOf(16 - c).pow(stand.size())
                        .multiply(BigInteger.valueOf(c).pow(all.size() - stand.size())));
            }
        }
        BigInteger both = above.gcd(below);
        return (what == 0 ? above : below).divide(both).longValueExact();
    }

    int reigns(int seed, int n, int t) {
        if (n < 1 || n > 20 || t != -1 && !town(t)) {
            return -2;
        }
        int[] were = told.clone();
        BigInteger s = BigInteger.valueOf(seed & 0xFFFFFFFFL);
        int sum = 0;
        for (int i = 0; i < n; i++) {
            for (int[] lot : new int[][] {{0, 8}, {3, 8}, {2, 10}}) {
                s = s.multiply(BigInteger.valueOf(1103515245)).add(BigInteger.valueOf(12345)).mod(BigInteger.ONE.shiftLeft(32));
                told[lot[0]] = s.shiftRight(16).intValueExact() % lot[1];
            }
            sum += t == -1 ? wins() : Math.max(0, hears(t, 2));
        }
        told = were;
        return sum;
    }

    // ---- sheets

    private int found(int number) {
        finding = number;
        return -10 - number;
    }

    int sheet(int s, int form, int n) {
        if (s < 0 || s > 3 || form < 0 || form > 2 || n > 60) {
            return -2;
        }
        if (n < 0) {
            return found(5);
        }
        rows[s] = new int[n];
        forms[s] = form;
        return n;
    }

    int lose(int s) {
        if (s < 0 || s > 3) {
            return -2;
        }
        if (rows[s] == null) {
            return found(1);
        }
        int n = rows[s].length;
        rows[s] = null;
        return n;
    }

    private int cut(int form, int v) {
        return form == 0 ? (byte) v : form == 1 ? (short) v : v;
    }

    private int item(int s, int form, int i) {
        if (s < 0 || s > 3 || form < 0 || form > 2) {
            return -2;
        }
        if (rows[s] == null) {
            return found(1);
        }
        if (forms[s] != form) {
            return found(3);
        }
        return i < 0 || i >= rows[s].length ? found(2) : 1;
    }

    int lay(int s, int form, int i, int v) {
        int answer = item(s, form, i);
        if (answer == 1) {
            rows[s][i] = cut(form, v);
        }
        return answer;
    }

    int get(int s, int form, int i) {
        return item(s, form, i) == 1 ? rows[s][i] : Integer.MIN_VALUE;
    }

    int copy(int s, int i, int t, int j, int n) {
        if (s < 0 || s > 3 || t < 0 || t > 3) {
            return -2;
        }
        if (rows[s] == null || rows[t] == null) {
            return found(1);
        }
        if (forms[s] != forms[t]) {
            return found(4);
        }
        if (i < 0 || j < 0 || n < 0 || (long) i + n > rows[s].length || (long) j + n > rows[t].length) {
            return found(2);
        }
        int[] were = rows[s].clone();
        for (int k = 0; k < n; k++) {
            rows[t][j + k] = were[i + k];
        }
        return 1;
    }

    int write(int what, int s) {
        if (what < 0 || what > 1 || s < 0 || s > 3) {
            return -2;
        }
        if (rows[s] == null) {
            return found(1);
        }
        int n = Math.min(8, rows[s].length);
        for (int t = 0; t < n; t++) {
            rows[s][t] = cut(forms[s], hears(t, what));
        }
        return n;
    }

    int count(int what) {
        int rich = 0, come = 0;
        for (int p = 0; p < items(1).size(); p++) {
            rich += person(p, 3);
            come += ride(p).comes() >= 0 ? 1 : 0;
        }
        int[] all = {items(0).size(), items(1).size(), texts[0].length(), texts[1].length(), rich, come, told[5],
            seen.size(), finding};
        return what < 0 || what > 8 ? -2 : all[what];
    }
}
