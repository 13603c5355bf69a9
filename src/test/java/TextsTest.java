/** Promises 1 to 8: a new object, the texts, what they tell, and what is told of the death. */
public final class TextsTest {
    public static void main(String[] args) {
        newObject();
        typing();
        undoing();
        faultsOfRoads();
        faultsOfPersons();
        roads();
        persons();
        faultyTextIsAsIfEmpty();
        setting();
        Check.end();
    }

    private static void newObject() {
        CrownlessDays x = new CrownlessDays();
        for (int what = 0; what <= 8; what++) {
            Check.due("new: count(" + what + ")", x.count(what), 0);
        }
        for (int what = 0; what <= 5; what++) {
            Check.due("new: set(" + what + ", 0)", x.set(what, 0), 0);
        }
        for (int s = 0; s < 4; s++) {
            Check.due("new: lose(" + s + ")", x.lose(s), -11);
        }
        Check.due("new: forget()", x.forget(), 0);
    }

    private static void typing() {
        CrownlessDays x = new CrownlessDays();
        for (int text = 0; text <= 1; text++) {
            for (int i = 1; i <= 47; i++) {
                Check.due("type " + i, x.type(text, i % 2 == 0 ? 0 : 255), i);
            }
            Check.due("type into a full text", x.type(text, 'a'), CrownlessDays.FULL);
            Check.due("BAD ahead of FULL", x.type(text, 256), CrownlessDays.BAD);
            Check.due("bytes", x.count(2 + text), 47);
        }
        Check.due("wipe(1)", x.wipe(1), 47);
        Check.due("wipe(1) again", x.wipe(1), 0);
        Check.due("text 0 stays", x.count(2), 47);
        int[] noText = {-1, 2, Integer.MIN_VALUE, Integer.MAX_VALUE};
        for (int text : noText) {
            Check.due("type in no text", x.type(text, 'a'), CrownlessDays.BAD);
            Check.due("wipe of no text", x.wipe(text), CrownlessDays.BAD);
            Check.due("undo of no text", x.undo(text), CrownlessDays.BAD);
            Check.due("fault of no text", x.fault(text), CrownlessDays.BAD);
        }
        Check.due("type -1", x.type(1, -1), CrownlessDays.BAD);
        Check.due("type 256", x.type(1, 256), CrownlessDays.BAD);
        Check.due("type 0", x.type(1, 0), 1);
        Check.due("type 255", x.type(1, 255), 2);
    }

    private static void undoing() {
        CrownlessDays x = Check.with("ab1;cd2", "a1o1.");
        Check.due("undo(0)", x.undo(0), 6);
        Check.due("fault(0)", x.fault(0), 6);
        Check.due("count(0)", x.count(0), 0);
        Check.due("undo(0)", x.undo(0), 5);
        Check.due("undo(0)", x.undo(0), 4);
        Check.due("undo(0)", x.undo(0), 3);
        Check.due("count(0)", x.count(0), 1);
        Check.due("way(0, 1)", x.way(0, 1), 1);
        Check.due("wipe(0)", x.wipe(0), 3);
        Check.due("fault of a wiped one", x.fault(0), -1);
        Check.due("count(0) of a wiped one", x.count(0), 0);
        Check.due("undo(0) of an empty one", x.undo(0), CrownlessDays.NOT);
        Check.due("way(0, 1) undone", x.way(0, 1), -1);
        Check.due("the other text stays", x.count(3), 5);
    }

    private static void fault(int text, String bytes, int due) {
        CrownlessDays x = new CrownlessDays();
        Check.typeIn(x, text, bytes);
        Check.due("fault of " + bytes, x.fault(text), due);
    }

    private static void faultsOfRoads() {
        fault(0, "", -1);
        fault(0, "a", 1);
        fault(0, "ab", 2);
        fault(0, "ab1", -1);
        fault(0, "ha9", -1);
        fault(0, "ab1;", 4);
        fault(0, "ab1;b", 5);
        fault(0, "ab1;ba1", -1);
        fault(0, "`", 0);
        fault(0, "i", 0);
        fault(0, ";", 0);
        fault(0, "a`", 1);
        fault(0, "ai", 1);
        fault(0, "aa", 1);
        fault(0, "ab1;cc1", 5);
        fault(0, "ab0", 2);
        fault(0, "ab:", 2);
        fault(0, "ab1,", 3);
        fault(0, "ab12", 3);
        fault(0, "ab1;;", 4);
        fault(0, "A", 0);
        fault(0, "ab1;ab1;ab1;ab1;ab1;ab1;ab1;ab1;ab1;ab1;ab1;ab1", -1);
        fault(0, "ab1;ab1;ab1;ab1;ab1;ab1;ab1;ab1;ab1;ab1;ab1;abx", 46);
    }

    private static void faultsOfPersons() {
        fault(1, "", -1);
        fault(1, "a", 1);
        fault(1, "a0", 2);
        fault(1, "a0o", 3);
        fault(1, "a0o0", 4);
        fault(1, "a0o0.", -1);
        fault(1, "h9b9h", -1);
        fault(1, "h9c9a", -1);
        fault(1, "a0o0.;", 6);
        fault(1, "i", 0);
        fault(1, "a/", 1);
        fault(1, "a:", 1);
        fault(1, "a0a", 2);
        fault(1, "a0d", 2);
        fault(1, "a0o/", 3);
        fault(1, "a0o:", 3);
        fault(1, "a0o0i", 4);
        fault(1, "a0o0`", 4);
        fault(1, "a0o0;", 4);
        fault(1, "a0o0..", 5);
        fault(1, "a0o0.;a", 7);
        fault(1, "a1o1.;a1o1.;a1o1.;a1o1.;a1o1.;a1o1.;a1o1.;a1o1.", -1);
        fault(1, "a1o1.;a1o1.;a1o1.;a1o1.;a1o1.;a1o1.;a1o1.;a1o1x", 46);
    }

    private static void roads() {
        CrownlessDays x = Check.with("ab1;hg9;cd5", "");
        int[][] due = {{0, 1, 1}, {7, 6, 9}, {2, 3, 5}};
        for (int r = 0; r < 3; r++) {
            for (int what = 0; what <= 2; what++) {
                Check.due("road(" + r + ", " + what + ")", x.road(r, what), due[r][what]);
            }
            Check.due("road what -1", x.road(r, -1), CrownlessDays.BAD);
            Check.due("road what 3", x.road(r, 3), CrownlessDays.BAD);
        }
        Check.due("count(0)", x.count(0), 3);
        Check.due("road(3, 0)", x.road(3, 0), CrownlessDays.BAD);
        Check.due("road(-1, 0)", x.road(-1, 0), CrownlessDays.BAD);
    }

    private static void persons() {
        CrownlessDays x = Check.with("", "a0o9.;h9b0h;c5c4a");
        int[][] due = {{0, 0, 0, 9, -1}, {7, 9, 1, 0, 7}, {2, 5, 2, 4, 0}};
        for (int p = 0; p < 3; p++) {
            for (int what = 0; what <= 4; what++) {
                Check.due("person(" + p + ", " + what + ")", x.person(p, what), due[p][what]);
            }
            Check.due("person what -1", x.person(p, -1), CrownlessDays.BAD);
            Check.due("person what 5", x.person(p, 5), CrownlessDays.BAD);
        }
        Check.due("count(1)", x.count(1), 3);
        Check.due("count(4)", x.count(4), 13);
        Check.due("person(3, 0)", x.person(3, 0), CrownlessDays.BAD);
        Check.due("person(-1, 0)", x.person(-1, 0), CrownlessDays.BAD);
    }

    private static void faultyTextIsAsIfEmpty() {
        CrownlessDays x = Check.with("ab1;", "a0o9.;b");
        Check.due("count(0)", x.count(0), 0);
        Check.due("count(1)", x.count(1), 0);
        Check.due("count(2)", x.count(2), 4);
        Check.due("count(3)", x.count(3), 7);
        Check.due("count(4)", x.count(4), 0);
        Check.due("road(0, 0)", x.road(0, 0), CrownlessDays.BAD);
        Check.due("person(0, 0)", x.person(0, 0), CrownlessDays.BAD);
        Check.due("way(0, 1)", x.way(0, 1), -1);
        Check.due("rides(0, 1)", x.rides(0, 1), CrownlessDays.BAD);
    }

    private static void setting() {
        CrownlessDays x = new CrownlessDays();
        int[] most = {7, 9, 9, 7, 7, 255};
        for (int what = 0; what <= 5; what++) {
            Check.due("set above", x.set(what, most[what] + 1), CrownlessDays.BAD);
            Check.due("set below", x.set(what, -1), CrownlessDays.BAD);
            Check.due("set most", x.set(what, most[what]), 0);
            Check.due("set back", x.set(what, 3), most[what]);
            Check.due("set same", x.set(what, 3), 3);
        }
        Check.due("count(6)", x.count(6), 3);
        Check.due("set(-1, 0)", x.set(-1, 0), CrownlessDays.BAD);
        Check.due("set(6, 0)", x.set(6, 0), CrownlessDays.BAD);
    }
}
