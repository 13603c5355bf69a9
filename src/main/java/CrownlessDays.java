import java.util.Arrays;

/** The days between a king's death and the next crowning: news, scores, plans, guesses, chances. */
public final class CrownlessDays {
    public static final int NONE = -1, BAD = -2, NOT = -3, FULL = -4;

    // Written out, for LANGUAGE.md lets in the functions of Integer and Long, not their constants.
    private static final int LEAST_INT = -2147483648;
    private static final long LEAST_LONG = -9223372036854775808L;

    private static final int NULL = 1, INDEX = 2, CAST = 3, STORE = 4, SIZE = 5;

    private static final int TOWNS = 8, ROADS = 12, PERSONS = 8, TEXT_BYTES = 47;
    private static final int SEEN_MOST = 8, SHEETS = 4, FORMS = 3, SHEET_ITEMS = 60;
    // Above the day of any crowning (145 at the latest), and any number of wins or towns (8).
    private static final int BEYOND_ALL = 1000;
    private static final int LAST_DAY_ASKED = 99, SIXTEENTHS = 16, REIGNS_MOST = 20, HIDDEN_MOST = 9;

    private static final int DIED = 0, DAY = 1, HIDDEN = 2, HEIR = 3, CROWN = 4, SWORN = 5;
    private static final int[] TOLD_MOST = {7, 9, HIDDEN_MOST, 7, 7, 255};

    private static final int BOLD = 1, COWARD = 2;
    private static final int STAYS = 0, WINS = 1, BEATEN = 2, TOO_LATE = 3;

    private final Roads roads = new Roads();
    private final Persons persons = new Persons();
    private final int[] told = new int[TOLD_MOST.length];
    private final int[] trial = new int[TOLD_MOST.length];
    private final Course course = new Course(roads, persons);
    private final Chance chance = new Chance(roads);
    private final int[] seenWho = new int[SEEN_MOST];
    private final int[] seenWon = new int[SEEN_MOST];
    private int seenSize;
    private final Sheet[] sheets = new Sheet[SHEETS];
    private int finding;

    public CrownlessDays() {
        for (int s = 0; s < SHEETS; s++) {
            sheets[s] = new Sheet();
        }
    }

    // ---- roads, persons, the death

    public int type(int text, int b) {
        Text t = textOf(text);
        if (t == null || !within(b, 255)) {
            return BAD;
        }
        if (t.size >= TEXT_BYTES) {
            return FULL;
        }
        t.append(b);
        return t.size;
    }

    public int wipe(int text) {
        Text t = textOf(text);
        if (t == null) {
            return BAD;
        }
        int had = t.size;
        t.cutTo(0);
        return had;
    }

    public int undo(int text) {
        Text t = textOf(text);
        if (t == null) {
            return BAD;
        }
        if (t.size == 0) {
            return NOT;
        }
        t.cutTo(t.size - 1);
        return t.size;
    }

    public int fault(int text) {
        Text t = textOf(text);
        return t == null ? BAD : t.flaw;
    }

    public int road(int road, int what) {
        if (!within(road, roads.items - 1) || !within(what, 2)) {
            return BAD;
        }
        return what == 0 ? roads.from[road] : what == 1 ? roads.to[road] : roads.days[road];
    }

    public int person(int person, int what) {
        if (!isPerson(person)) {
            return BAD;
        }
        switch (what) {
            case 0: return persons.town[person];
            case 1: return persons.guard[person];
            case 2: return persons.kind[person];
            case 3: return persons.rich[person];
            case 4: return persons.score[person];
            default: return BAD;
        }
    }

    public int set(int what, int v) {
        if (!within(what, SWORN) || !within(v, TOLD_MOST[what])) {
            return BAD;
        }
        int was = told[what];
        told[what] = v;
        return was;
    }

    // ---- news

    public int way(int a, int b) {
        return isTown(a) && isTown(b) ? roads.between(a, b) : BAD;
    }

    public int hears(int town, int what) {
        if (!isTown(town) || !within(what, 2)) {
            return BAD;
        }
        course.follow(told);
        return what == 0 ? course.heard[town] : what == 1 ? course.law[town] : course.lawless(town);
    }

    public int crowned() {
        course.follow(told);
        return course.crowning;
    }

    public int knew(int day) {
        if (!within(day, LAST_DAY_ASKED)) {
            return BAD;
        }
        course.follow(told);
        int towns = 0;
        for (int t = 0; t < TOWNS; t++) {
            if (isBy(course.heard[t], day)) {
                towns |= 1 << t;
            }
        }
        return towns;
    }

    // ---- scores

    public int rides(int person, int what) {
        if (!isPerson(person) || !within(what, 2)) {
            return BAD;
        }
        course.follow(told);
        return what == 0 ? course.comes[person] : what == 1 ? course.fate[person] : course.wealth[person];
    }

    public int lost(int what) {
        if (!within(what, 1)) {
            return BAD;
        }
        course.follow(told);
        return what == 0 ? course.wins : course.lastWin;
    }

    // ---- plans

    public int swear(int what) {
        if (!within(what, 1)) {
            return BAD;
        }
        // Who wins with no town sworn loses only to an oath in the very town it comes to:
        // so just those towns must swear, and no other set is as small.
        followWith(SWORN, 0);
        int towns = course.townsOfWins();
        return what == 0 ? Integer.bitCount(towns) : towns;
    }

    public int place(int what) {
        if (!within(what, 1)) {
            return BAD;
        }
        int best = 0, fewest = BEYOND_ALL, soonest = BEYOND_ALL;
        for (int town = 0; town < TOWNS; town++) {
            followWith(CROWN, town);
            int when = course.crowning == NONE ? BEYOND_ALL : course.crowning;
            if (course.wins < fewest || course.wins == fewest && when < soonest) {
                best = town;
                fewest = course.wins;
                soonest = when;
            }
        }
        return what == 0 ? best : fewest;
    }

    public int litter(int what) {
        if (!within(what, 1)) {
            return BAD;
        }
        int best = 0, fewest = BEYOND_ALL;
        for (int days = 0; days <= HIDDEN_MOST; days++) {
            followWith(HIDDEN, days);
            if (course.wins < fewest) {
                best = days;
                fewest = course.wins;
            }
        }
        return what == 0 ? best : fewest;
    }

    // ---- seen, chance, reigns

    public int seen(int person, int won) {
        if (!maySee(person, won)) {
            return BAD;
        }
        if (seenSize >= SEEN_MOST) {
            return FULL;
        }
        seeMore(person, won);
        return seenSize;
    }

    public int forget() {
        int were = seenSize;
        seenSize = 0;
        return were;
    }

    public int read(int s) {
        if (!isSheet(s)) {
            return BAD;
        }
        Sheet from = sheets[s];
        if (from.isLost()) {
            return found(NULL);
        }
        int taken = 0;
        for (int i = 0; i + 1 < from.size && seenSize < SEEN_MOST; i += 2) {
            if (!maySee(from.items[i], from.items[i + 1])) {
                break;
            }
            seeMore(from.items[i], from.items[i + 1]);
            taken++;
        }
        return taken;
    }

    public int fits(int what) {
        return what == 0 ? fitting(HIDDEN) : what == 1 ? fitting(DIED) : BAD;
    }

    public int ask() {
        int where = fitting(DIED);
        int best = 0, least = BEYOND_ALL;
        for (int town = 0; town < TOWNS; town++) {
            int most = mostAlike(town, where);
            if (most < least) {
                best = town;
                least = most;
            }
        }
        return best;
    }

    public long out(int c, int town, int day, int what) {
        if (!within(c, SIXTEENTHS) || !isTown(town) || !within(day, LAST_DAY_ASKED) || !within(what, 1)) {
            return LEAST_LONG - BAD;
        }
        chance.reckon(c, told[DIED], town, day - told[DAY] - told[HIDDEN]);
        return what == 0 ? chance.above : chance.below;
    }

    public int reigns(int seed, int n, int town) {
        if (n < 1 || n > REIGNS_MOST || town != NONE && !isTown(town)) {
            return BAD;
        }
        System.arraycopy(told, 0, trial, 0, told.length);
        int drawn = seed, sum = 0;
        for (int i = 0; i < n; i++) {
            drawn = nextSeed(drawn);
            trial[DIED] = lot(drawn, TOWNS);
            drawn = nextSeed(drawn);
            trial[HEIR] = lot(drawn, TOWNS);
            drawn = nextSeed(drawn);
            trial[HIDDEN] = lot(drawn, HIDDEN_MOST + 1);
            course.follow(trial);
            sum += town == NONE ? course.wins : Math.max(0, course.lawless(town));
        }
        return sum;
    }

    // ---- sheets

    public int sheet(int s, int form, int n) {
        if (!isSheet(s) || !isForm(form) || n > SHEET_ITEMS) {
            return BAD;
        }
        if (n < 0) {
            return found(SIZE);
        }
        sheets[s].renew(form, n);
        return n;
    }

    public int lose(int s) {
        if (!isSheet(s)) {
            return BAD;
        }
        if (sheets[s].isLost()) {
            return found(NULL);
        }
        int had = sheets[s].size;
        sheets[s].renew(NONE, 0);
        return had;
    }

    public int lay(int s, int form, int i, int v) {
        int refusal = refusalOfItem(s, form, i);
        if (refusal != 0) {
            return refusal;
        }
        sheets[s].put(i, v);
        return 1;
    }

    public int get(int s, int form, int i) {
        return refusalOfItem(s, form, i) == 0 ? sheets[s].items[i] : LEAST_INT;
    }

    public int copy(int s, int i, int t, int j, int n) {
        if (!isSheet(s) || !isSheet(t)) {
            return BAD;
        }
        Sheet from = sheets[s], to = sheets[t];
        if (from.isLost() || to.isLost()) {
            return found(NULL);
        }
        if (from.form != to.form) {
            return found(STORE);
        }
        if (!from.holds(i, n) || !to.holds(j, n)) {
            return found(INDEX);
        }
        System.arraycopy(from.items, i, to.items, j, n);
        return 1;
    }

    public int write(int what, int s) {
        if (!within(what, 1) || !isSheet(s)) {
            return BAD;
        }
        Sheet to = sheets[s];
        if (to.isLost()) {
            return found(NULL);
        }
        course.follow(told);
        int n = Math.min(TOWNS, to.size);
        for (int t = 0; t < n; t++) {
            to.put(t, what == 0 ? course.heard[t] : course.law[t]);
        }
        return n;
    }

    public int count(int what) {
        switch (what) {
            case 0: return roads.items;
            case 1: return persons.items;
            case 2: return roads.size;
            case 3: return persons.size;
            case 4: return persons.richTogether();
            case 5:
                course.follow(told);
                return course.coming();
            case 6: return told[SWORN];
            case 7: return seenSize;
            case 8: return finding;
            default: return BAD;
        }
    }

    public long digest() {
        long h = 17;
        for (int what = 0; what <= 7; what++) {
            h = 31 * h + count(what);
        }
        h = 31 * h + fault(0);
        h = 31 * h + fault(1);
        h = digestOfTowns(h);
        h = digestOfRoads(h);
        h = digestOfPersons(h);
        h = 31 * h + crowned();
        h = 31 * h + knew(5);
        h = 31 * (31 * h + lost(0)) + lost(1);
        h = 31 * (31 * h + swear(0)) + swear(1);
        h = 31 * (31 * h + place(0)) + place(1);
        h = 31 * (31 * h + litter(0)) + litter(1);
        h = 31 * (31 * h + fits(0)) + fits(1);
        h = 31 * h + ask();
        h = 31 * (31 * h + out(5, 3, 9, 0)) + out(5, 3, 9, 1);
        return 31 * h + reigns(7, 5, NONE);
    }

    private long digestOfTowns(long before) {
        long h = before;
        for (int town = 0; town < TOWNS; town++) {
            h = 31 * h + way(0, town);
            for (int what = 0; what <= 2; what++) {
                h = 31 * h + hears(town, what);
            }
            h = 31 * h + reigns(7, 5, town);
        }
        return h;
    }

    private long digestOfRoads(long before) {
        long h = before;
        for (int r = 0; r < roads.items; r++) {
            for (int what = 0; what <= 2; what++) {
                h = 31 * h + road(r, what);
            }
        }
        return h;
    }

    private long digestOfPersons(long before) {
        long h = before;
        for (int p = 0; p < persons.items; p++) {
            for (int what = 0; what <= 4; what++) {
                h = 31 * h + person(p, what);
            }
            for (int what = 0; what <= 2; what++) {
                h = 31 * h + rides(p, what);
            }
        }
        return h;
    }

    private Text textOf(int text) {
        return text == 0 ? roads : text == 1 ? persons : null;
    }

    private boolean isPerson(int p) {
        return within(p, persons.items - 1);
    }

    /** Follows what comes of all that is told, but with v in place of one thing. */
    private void followWith(int what, int v) {
        System.arraycopy(told, 0, trial, 0, told.length);
        trial[what] = v;
        course.follow(trial);
    }

    /** The values, as bits, that may stand in place of one thing told so that all that was seen comes out. */
    private int fitting(int what) {
        System.arraycopy(told, 0, trial, 0, told.length);
        int bits = 0;
        for (int v = 0; v <= TOLD_MOST[what]; v++) {
            trial[what] = v;
            course.follow(trial);
            if (comesOutAsSeen()) {
                bits |= 1 << v;
            }
        }
        return bits;
    }

    private boolean comesOutAsSeen() {
        for (int i = 0; i < seenSize; i++) {
            boolean won = course.fate[seenWho[i]] == WINS;
            if (won != (seenWon[i] == 1)) {
                return false;
            }
        }
        return true;
    }

    /** How many of the towns where he may have died make this town hear on one and the same day, at most. */
    private int mostAlike(int town, int where) {
        int most = 0;
        for (int a = 0; a < TOWNS; a++) {
            int alike = 0;
            for (int b = 0; b < TOWNS; b++) {
                if (hasBit(where, b) && roads.between(b, town) == roads.between(a, town)) {
                    alike++;
                }
            }
            most = Math.max(most, hasBit(where, a) ? alike : 0);
        }
        return most;
    }

    private static boolean maySee(int person, int won) {
        return within(person, PERSONS - 1) && within(won, 1);
    }

    private void seeMore(int person, int won) {
        seenWho[seenSize] = person;
        seenWon[seenSize] = won;
        seenSize++;
    }

    private int found(int number) {
        finding = number;
        return -10 - number;
    }

    /** 0: there is such an item of that form. */
    private int refusalOfItem(int s, int form, int i) {
        if (!isSheet(s) || !isForm(form)) {
            return BAD;
        }
        if (sheets[s].isLost()) {
            return found(NULL);
        }
        if (sheets[s].form != form) {
            return found(CAST);
        }
        return sheets[s].holds(i, 1) ? 0 : found(INDEX);
    }

    private static boolean within(int v, int most) {
        return v >= 0 && v <= most;
    }

    private static boolean isTown(int v) {
        return within(v, TOWNS - 1);
    }

    private static boolean isSheet(int v) {
        return within(v, SHEETS - 1);
    }

    private static boolean isForm(int v) {
        return within(v, FORMS - 1);
    }

    private static boolean hasBit(int bits, int i) {
        return (bits >> i & 1) == 1;
    }

    private static boolean isBy(int when, int day) {
        return when != NONE && when <= day;
    }

    private static int later(int day, int days) {
        return day == NONE || days == NONE ? NONE : day + days;
    }

    private static int nextSeed(int seed) {
        return 1103515245 * seed + 12345;
    }

    private static int lot(int seed, int m) {
        return (seed >>> 16) % Math.max(1, m);
    }

    /** A text of items of one width with ; between them; it is read anew at each change. */
    private abstract static class Text {
        private final int width;
        private final int[] bytes = new int[TEXT_BYTES];
        int size;
        int flaw = NONE;
        int items;

        Text(int width) {
            this.width = width;
        }

        /** Takes a byte to its spot of an item; false: it can't stand there. */
        abstract boolean takes(int item, int spot, int b);

        void append(int b) {
            if (size < TEXT_BYTES) {
                bytes[size] = b;
                size++;
                readAnew();
            }
        }

        void cutTo(int n) {
            size = Math.max(0, Math.min(n, size));
            readAnew();
        }

        void readAnew() {
            int item = 0, spot = 0;
            flaw = NONE;
            for (int i = 0; i < size && flaw == NONE; i++) {
                boolean ended = spot == width;
                boolean well = ended ? bytes[i] == ';' : takes(item, spot, bytes[i]);
                flaw = well ? NONE : i;
                item = ended ? item + 1 : item;
                spot = ended ? 0 : spot + 1;
            }
            if (flaw == NONE && size > 0 && spot < width) {
                flaw = size;
            }
            items = flaw == NONE && size > 0 ? item + 1 : 0;
        }
    }

    private static final class Roads extends Text {
        // Far above any way (63 at most), and twice as much is still an int.
        private static final int FAR = 1000;

        final int[] from = new int[ROADS];
        final int[] to = new int[ROADS];
        final int[] days = new int[ROADS];
        private final int[] ways = new int[TOWNS * TOWNS];

        Roads() {
            super(3);
            measure();
        }

        boolean takes(int item, int spot, int b) {
            if (!within(item, ROADS - 1)) {
                return false;
            }
            switch (spot) {
                case 0:
                    from[item] = b - 'a';
                    return isTown(from[item]);
                case 1:
                    to[item] = b - 'a';
                    return isTown(to[item]) && to[item] != from[item];
                default:
                    days[item] = b - '0';
                    return days[item] >= 1 && days[item] <= 9;
            }
        }

        void readAnew() {
            super.readAnew();
            measure();
        }

        int between(int a, int b) {
            int way = ways[a * TOWNS + b];
            return way >= FAR ? NONE : way;
        }

        private void measure() {
            Arrays.fill(ways, FAR);
            for (int t = 0; t < TOWNS; t++) {
                ways[t * TOWNS + t] = 0;
            }
            for (int r = 0; r < items; r++) {
                shorten(from[r], to[r], days[r]);
                shorten(to[r], from[r], days[r]);
            }
            for (int over = 0; over < TOWNS; over++) {
                goOver(over);
            }
        }

        private void goOver(int over) {
            for (int a = 0; a < TOWNS; a++) {
                for (int b = 0; b < TOWNS; b++) {
                    shorten(a, b, ways[a * TOWNS + over] + ways[over * TOWNS + b]);
                }
            }
        }

        private void shorten(int a, int b, int way) {
            int at = a * TOWNS + b;
            ways[at] = Math.min(ways[at], way);
        }
    }

    private static final class Persons extends Text {
        final int[] town = new int[PERSONS];
        final int[] guard = new int[PERSONS];
        final int[] kind = new int[PERSONS];
        final int[] rich = new int[PERSONS];
        final int[] score = new int[PERSONS];

        Persons() {
            super(5);
        }

        boolean takes(int item, int spot, int b) {
            if (!within(item, PERSONS - 1)) {
                return false;
            }
            switch (spot) {
                case 0:
                    town[item] = b - 'a';
                    return isTown(town[item]);
                case 1:
                    guard[item] = b - '0';
                    return within(guard[item], 9);
                case 2:
                    kind[item] = b == 'b' ? BOLD : b == 'c' ? COWARD : 0;
                    return b == 'o' || b == 'b' || b == 'c';
                case 3:
                    rich[item] = b - '0';
                    return within(rich[item], 9);
                default:
                    score[item] = b == '.' ? NONE : b - 'a';
                    return b == '.' || within(score[item], PERSONS - 1);
            }
        }

        int richTogether() {
            int sum = 0;
            for (int p = 0; p < items; p++) {
                sum += rich[p];
            }
            return sum;
        }
    }

    /** What comes of a death as it is told: the news, the crowning, the law, the rides. */
    private static final class Course {
        private final Roads roads;
        private final Persons persons;
        private final boolean[] paid = new boolean[PERSONS];
        final int[] heard = new int[TOWNS];
        final int[] law = new int[TOWNS];
        final int[] comes = new int[PERSONS];
        final int[] fate = new int[PERSONS];
        final int[] wealth = new int[PERSONS];
        int crowning;
        int wins;
        int lastWin;

        Course(Roads roads, Persons persons) {
            this.roads = roads;
            this.persons = persons;
        }

        void follow(int[] told) {
            for (int t = 0; t < TOWNS; t++) {
                heard[t] = later(told[DAY] + told[HIDDEN], roads.between(told[DIED], t));
            }
            int arrival = later(heard[told[HEIR]], roads.between(told[HEIR], told[CROWN]));
            crowning = later(arrival, 1);
            for (int t = 0; t < TOWNS; t++) {
                law[t] = later(crowning, roads.between(told[CROWN], t));
            }
            wins = 0;
            lastWin = NONE;
            for (int p = 0; p < PERSONS; p++) {
                ride(p, told[SWORN]);
            }
            payScores();
        }

        /** How many days there is no law in a town; 0: none that it knows of; NONE: for ever. */
        int lawless(int town) {
            if (heard[town] == NONE) {
                return 0;
            }
            return law[town] == NONE ? NONE : Math.max(0, law[town] - heard[town]);
        }

        int coming() {
            int n = 0;
            for (int p = 0; p < PERSONS; p++) {
                n += comes[p] == NONE ? 0 : 1;
            }
            return n;
        }

        int townsOfWins() {
            int towns = 0;
            for (int p = 0; p < PERSONS; p++) {
                if (fate[p] == WINS) {
                    towns |= 1 << persons.town[persons.score[p]];
                }
            }
            return towns;
        }

        private void ride(int p, int sworn) {
            int foe = p < persons.items ? persons.score[p] : NONE;
            comes[p] = NONE;
            fate[p] = STAYS;
            if (foe == NONE || foe == p || foe >= persons.items) {
                return;
            }
            int home = persons.town[p];
            comes[p] = later(heard[home], roads.between(home, persons.town[foe]));
            if (comes[p] == NONE) {
                return;
            }
            comes[p] += persons.kind[p] == COWARD ? 1 : 0;
            fate[p] = meet(p, foe, sworn);
            if (fate[p] == WINS) {
                wins++;
                lastWin = Math.max(lastWin, comes[p]);
            }
        }

        private int meet(int p, int foe, int sworn) {
            int there = persons.town[foe];
            if (hasBit(sworn, there) || isBy(law[there], comes[p])) {
                return TOO_LATE;
            }
            int attack = persons.guard[p] + (persons.kind[p] == BOLD ? 2 : 0);
            int defence = persons.guard[foe] + (isBy(heard[there], comes[p]) ? 2 : 0);
            return attack > defence ? WINS : BEATEN;
        }

        /** Riches change hands in the order of the days, for a winner takes what is there by then. */
        private void payScores() {
            for (int p = 0; p < PERSONS; p++) {
                wealth[p] = p < persons.items ? persons.rich[p] : 0;
                paid[p] = fate[p] != WINS;
            }
            for (int turn = 0; turn < wins; turn++) {
                int p = nextToPay();
                if (p != NONE) {
                    int foe = persons.score[p];
                    wealth[p] += wealth[foe];
                    wealth[foe] = 0;
                    paid[p] = true;
                }
            }
        }

        private int nextToPay() {
            int next = NONE;
            for (int p = 0; p < PERSONS; p++) {
                if (!paid[p] && (next == NONE || comes[p] < comes[next])) {
                    next = p;
                }
            }
            return next;
        }
    }

    /** The exact chance that a town hears in time, each road being out by itself. */
    private static final class Chance {
        // A set of standing roads is a number of 12 bits: 6 choose the word, 6 the bit in it.
        private static final int BITS = 6, WORDS = 64;
        // The numbers 0 to 63 that lack bit 0, 1, .. 5.
        private static final long[] LACKING = {
            0x5555555555555555L, 0x3333333333333333L, 0x0F0F0F0F0F0F0F0FL,
            0x00FF00FF00FF00FFL, 0x0000FFFF0000FFFFL, 0x00000000FFFFFFFFL};

        private final Roads roads;
        private final long[] good = new long[WORDS];
        private final long[] weights = new long[ROADS + 1];
        private int goal;
        long above;
        long below;

        Chance(Roads roads) {
            this.roads = roads;
        }

        void reckon(int c, int from, int to, int daysLeft) {
            Arrays.fill(good, 0L);
            goal = to;
            trace(from, daysLeft, 0, 1 << from, 0);
            for (int r = 0; r < roads.items; r++) {
                widen(r);
            }
            weigh(c);
            addUp();
            lower();
        }

        /** Marks the roads of each path to the goal that is short enough and meets no town twice. */
        private void trace(int town, int daysLeft, int standing, int passed, int depth) {
            if (daysLeft < 0 || depth >= TOWNS) {
                return;
            }
            if (town == goal) {
                good[standing >> BITS] |= 1L << (standing & WORDS - 1);
                return;
            }
            for (int r = 0; r < roads.items; r++) {
                boolean there = roads.from[r] == town, back = roads.to[r] == town;
                int next = there ? roads.to[r] : roads.from[r];
                if ((there || back) && !hasBit(passed, next)) {
                    trace(next, daysLeft - roads.days[r], standing | 1 << r, passed | 1 << next, depth + 1);
                }
            }
        }

        /** With one road more standing, what was good still is. */
        private void widen(int road) {
            for (int w = 0; w < WORDS; w++) {
                if (road < BITS) {
                    good[w] |= (good[w] & LACKING[road]) << (1 << road);
                } else {
                    good[w | 1 << (road - BITS)] |= good[w];
                }
            }
        }

        /** weights[k]: how many of the 16 to the power of roads are one set in which k stand. */
        private void weigh(int c) {
            for (int k = 0; k <= roads.items; k++) {
                weights[k] = 1;
                for (int r = 0; r < roads.items; r++) {
                    weights[k] *= r < k ? SIXTEENTHS - c : c;
                }
            }
        }

        private void addUp() {
            above = 0;
            below = 1L << 4 * roads.items;
            for (int set = 0; set < 1 << roads.items; set++) {
                if ((good[set >> BITS] >> (set & WORDS - 1) & 1L) == 1L) {
                    above += weights[Integer.bitCount(set)];
                }
            }
        }

        /** To lowest terms: what is below is a power of two, so halving is enough. */
        private void lower() {
            for (int i = 0; i < 4 * ROADS && (above & 1L) == 0L && below > 1; i++) {
                above >>= 1;
                below >>= 1;
            }
        }
    }

    /** A row of bytes, shorts or ints, or lost (its form is NONE). */
    private static final class Sheet {
        int form = NONE;
        int size;
        final int[] items = new int[SHEET_ITEMS];

        boolean isLost() {
            return form == NONE;
        }

        void renew(int newForm, int n) {
            form = newForm;
            size = n;
            Arrays.fill(items, 0);
        }

        boolean holds(int first, int n) {
            return first >= 0 && n >= 0 && first <= size - n;
        }

        void put(int i, int v) {
            items[i] = form == 0 ? (byte) v : form == 1 ? (short) v : v;
        }
    }
}
