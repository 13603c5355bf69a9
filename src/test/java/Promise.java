import java.util.ArrayList;
import java.util.List;
import java.util.function.Supplier;
import java.util.function.ToLongFunction;

/**
 * What the tests of single promises share: tests named by a promise's number and a sentence of the document, objects
 * that have been used, and refused calls that must leave all as it was. No object gets more than 512 calls.
 */
abstract class Promise {
    static final int NONE = -1, BAD = -2, NOT = -3, FULL = -4;
    static final int NULL = -11, INDEX = -12, CAST = -13, STORE = -14, SIZE = -15;
    static final int LEAST = Integer.MIN_VALUE, MOST = Integer.MAX_VALUE;
    static final int BYTES = 0, SHORTS = 1, INTS = 2;

    static final String TWELVE_ROADS = "ab1;bc2;cd3;de4;ef5;fg6;gh7;ha8;ac9;bd8;ce7;df6";
    static final String EIGHT_PERSONS = "a9b1b;b8o2c;c7c3d;d6b4e;e5o5f;f4c6g;g3b7h;h2o8.";
    static final String LONGEST = "ab9;bc9;cd9;de9;ef9;fg9;gh9";

    /** The latest finding of a used object, so that a refusal that is no finding is seen to leave it. */
    private static final int USED_FINDING = 5;
    private static final int SIZE_LOOKED_AT = 7;

    private static String name = "";

    static void test(int promise, String sentence, Runnable body) {
        name = "promise " + promise + ", " + sentence + ": ";
        int asked = Check.askedSoFar();
        try {
            body.run();
        } catch (RuntimeException e) {
            Check.holds(name + "threw " + e, false);
        }
        Check.holds(name + "asks something", Check.askedSoFar() > asked);
    }

    static void due(String call, long got, long want) {
        Check.due(name + call, got, want);
    }

    // ---- objects

    static CrownlessDays with(String roads, String persons) {
        CrownlessDays x = new CrownlessDays();
        typeIn(x, 0, roads);
        typeIn(x, 1, persons);
        return x;
    }

    /** Town h lies off every road and the heir is there: nobody is ever crowned, so guards alone decide. */
    static CrownlessDays neverCrowned(String roads, String persons) {
        CrownlessDays x = with(roads, persons);
        x.set(3, 7);
        return x;
    }

    static void typeIn(CrownlessDays x, int text, String bytes) {
        for (int i = 0; i < bytes.length(); i++) {
            x.type(text, bytes.charAt(i));
        }
    }

    static void layIn(CrownlessDays x, int s, int form, int... items) {
        x.sheet(s, form, items.length);
        for (int i = 0; i < items.length; i++) {
            x.lay(s, form, i, items[i]);
        }
    }

    static void items(CrownlessDays x, int s, int form, int... items) {
        for (int i = 0; i < items.length; i++) {
            due("get(" + s + ", " + form + ", " + i + ")", x.get(s, form, i), items[i]);
        }
    }

    /** Sheets 0, 1, 2 are rows of 3 bytes, 4 shorts, 5 ints; sheet 3 is lost. */
    static CrownlessDays used() {
        CrownlessDays x = with("ab2;bc3;cd1;ad9;de2", "a5o3b;b2o7c;c4b1a;d3c9b;e9o5d");
        int[] told = {1, 3, 2, 2, 3, 16};
        for (int what = 0; what < told.length; what++) {
            x.set(what, told[what]);
        }
        x.seen(0, 1);
        x.seen(2, 0);
        layIn(x, 0, BYTES, 1, -2, 3);
        layIn(x, 1, SHORTS, 0, 1, 7, 0);
        layIn(x, 2, INTS, 10, 20, 30, 40, 50);
        x.sheet(3, BYTES, -1);
        return x;
    }

    /** As used, but with both texts full and 8 seen. */
    static CrownlessDays full() {
        CrownlessDays x = used();
        x.wipe(0);
        x.wipe(1);
        typeIn(x, 0, TWELVE_ROADS);
        typeIn(x, 1, EIGHT_PERSONS);
        for (int i = 0; i < 6; i++) {
            x.seen(i, 0);
        }
        return x;
    }

    // ---- refusals

    /** A refusal that is no finding. */
    static void refused(String call, long due, ToLongFunction<CrownlessDays> calling) {
        refused(call, due, Promise::used, calling);
    }

    static void refused(String call, long due, Supplier<CrownlessDays> made, ToLongFunction<CrownlessDays> calling) {
        leavesAll(call, due, USED_FINDING, made, calling);
    }

    /** A finding, answered as -10 less its number. */
    static void found(String call, int due, ToLongFunction<CrownlessDays> calling) {
        leavesAll(call, due, -10 - due, Promise::used, calling);
    }

    /** A finding of get(), whose answer is the least int. */
    static void foundByGet(String call, int finding, ToLongFunction<CrownlessDays> calling) {
        leavesAll(call, LEAST, -10 - finding, Promise::used, calling);
    }

    private static void leavesAll(String call, long due, int finding, Supplier<CrownlessDays> made,
            ToLongFunction<CrownlessDays> calling) {
        CrownlessDays x = made.get();
        due(call, calling.applyAsLong(x), due);
        due("count(8) behind " + call, x.count(8), finding);
        List<String> got = allOf(x), want = allOf(made.get());
        for (int i = 0; i < want.size(); i++) {
            boolean same = i < got.size() && got.get(i).equals(want.get(i));
            Check.holds(name + "behind " + call + ", " + want.get(i) + " as it was", same);
        }
        due("as much to see behind " + call, got.size(), want.size());
    }

    /** All that calls can show of an object, but for the latest finding; they use the object up. */
    private static List<String> allOf(CrownlessDays x) {
        List<String> all = new ArrayList<>();
        for (int what = 0; what <= 7; what++) {
            all.add("count(" + what + ") = " + x.count(what));
        }
        all.add("digest() = " + x.digest());
        for (int s = 0; s < 4; s++) {
            for (int form = 0; form < 3; form++) {
                for (int i = 0; i < SIZE_LOOKED_AT; i++) {
                    all.add("get(" + s + ", " + form + ", " + i + ") = " + x.get(s, form, i));
                }
            }
            all.add("lose(" + s + ") = " + x.lose(s));
        }
        for (int what = 0; what <= 5; what++) {
            all.add("set(" + what + ", 0) = " + x.set(what, 0));
        }
        all.add("forget() = " + x.forget());
        for (int text = 0; text < 2; text++) {
            for (int left = 1, i = 0; left > 0 && i < 48; i++) {
                all.add("fault(" + text + ") = " + x.fault(text));
                left = x.undo(text);
            }
        }
        return all;
    }
}
