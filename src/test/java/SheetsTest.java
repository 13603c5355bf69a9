/** Promises 25 to 31: the sheets, the findings, the counts. */
public final class SheetsTest {
    private static final int LEAST = Integer.MIN_VALUE;

    public static void main(String[] args) {
        making();
        losing();
        laying();
        lowestBits();
        getting();
        copying();
        copyFindings();
        writing();
        writingToBytes();
        counting();
        Check.end();
    }

    private static void making() {
        CrownlessDays x = new CrownlessDays();
        for (int s = 0; s < 4; s++) {
            for (int form = 0; form < 3; form++) {
                Check.due("sheet of none", x.sheet(s, form, 0), 0);
                Check.due("sheet of 60", x.sheet(s, form, 60), 60);
                Check.due("item 0", x.get(s, form, 0), 0);
                Check.due("item 59", x.get(s, form, 59), 0);
                x.lay(s, form, 59, 1);
                Check.due("a new row", x.sheet(s, form, 60), 60);
                Check.due("is 0 at first", x.get(s, form, 59), 0);
            }
        }
        Check.due("sheet(-1)", x.sheet(-1, 0, 1), CrownlessDays.BAD);
        Check.due("sheet(4)", x.sheet(4, 0, 1), CrownlessDays.BAD);
        Check.due("form -1", x.sheet(0, -1, 1), CrownlessDays.BAD);
        Check.due("form 3", x.sheet(0, 3, 1), CrownlessDays.BAD);
        Check.due("61", x.sheet(0, 0, 61), CrownlessDays.BAD);
        Check.due("BAD ahead of SIZE", x.sheet(4, 0, -1), CrownlessDays.BAD);
        Check.due("no finding yet", x.count(8), 0);
        Check.due("-1", x.sheet(0, 0, -1), -15);
        Check.due("count(8)", x.count(8), 5);
        Check.due("least", x.sheet(0, 0, Integer.MIN_VALUE), -15);
        Check.due("the sheet stays", x.lose(0), 60);
    }

    private static void losing() {
        CrownlessDays x = new CrownlessDays();
        Check.due("lose(-1)", x.lose(-1), CrownlessDays.BAD);
        Check.due("lose(4)", x.lose(4), CrownlessDays.BAD);
        Check.due("count(8)", x.count(8), 0);
        x.sheet(3, 1, 17);
        Check.due("lose(3)", x.lose(3), 17);
        Check.due("lose(3) again", x.lose(3), -11);
        Check.due("count(8)", x.count(8), 1);
        x.sheet(3, 1, 0);
        Check.due("lose an empty one", x.lose(3), 0);
    }

    private static void laying() {
        CrownlessDays x = new CrownlessDays();
        x.sheet(1, 1, 3);
        Check.due("lay", x.lay(1, 1, 0, 5), 1);
        Check.due("lay", x.lay(1, 1, 2, -7), 1);
        Check.due("get", x.get(1, 1, 0), 5);
        Check.due("get", x.get(1, 1, 1), 0);
        Check.due("get", x.get(1, 1, 2), -7);
        Check.due("lay in no sheet", x.lay(4, 1, 0, 5), CrownlessDays.BAD);
        Check.due("lay in no sheet", x.lay(-1, 1, 0, 5), CrownlessDays.BAD);
        Check.due("lay of no form", x.lay(1, 3, 0, 5), CrownlessDays.BAD);
        Check.due("BAD ahead of NULL", x.lay(0, -1, 0, 5), CrownlessDays.BAD);
        Check.due("count(8)", x.count(8), 0);
        Check.due("NULL", x.lay(0, 1, 9, 5), -11);
        Check.due("count(8)", x.count(8), 1);
        Check.due("CAST ahead of INDEX", x.lay(1, 2, 9, 5), -13);
        Check.due("count(8)", x.count(8), 3);
        Check.due("INDEX", x.lay(1, 1, 3, 5), -12);
        Check.due("count(8)", x.count(8), 2);
        Check.due("INDEX", x.lay(1, 1, -1, 5), -12);
        Check.due("INDEX", x.lay(1, 1, Integer.MAX_VALUE, 5), -12);
        Check.due("INDEX", x.lay(1, 1, Integer.MIN_VALUE, 5), -12);
        Check.due("BAD leaves the finding", x.lay(9, 9, 9, 9), CrownlessDays.BAD);
        Check.due("count(8)", x.count(8), 2);
    }

    private static void lowestBits() {
        CrownlessDays x = new CrownlessDays();
        for (int form = 0; form < 3; form++) {
            x.sheet(form, form, 1);
            int[] values = {0, 127, 128, 255, 256, -129, 32767, 32768, 65535, 65536, -32769, LEAST + 1, Integer.MAX_VALUE};
            for (int v : values) {
                int shift = form == 0 ? 24 : form == 1 ? 16 : 0;
                x.lay(form, form, 0, v);
                Check.due("get " + v + " as form " + form, x.get(form, form, 0), v << shift >> shift);
            }
        }
    }

    private static void getting() {
        CrownlessDays x = new CrownlessDays();
        x.sheet(2, 0, 2);
        x.lay(2, 0, 1, 9);
        Check.due("get", x.get(2, 0, 1), 9);
        Check.due("BAD sheet", x.get(4, 0, 0), LEAST);
        Check.due("BAD sheet", x.get(-1, 0, 0), LEAST);
        Check.due("BAD form", x.get(2, 3, 0), LEAST);
        Check.due("BAD form", x.get(2, -1, 0), LEAST);
        Check.due("BAD is no finding", x.count(8), 0);
        Check.due("NULL", x.get(0, 0, 0), LEAST);
        Check.due("count(8)", x.count(8), 1);
        Check.due("CAST", x.get(2, 1, 7), LEAST);
        Check.due("count(8)", x.count(8), 3);
        Check.due("INDEX", x.get(2, 0, 2), LEAST);
        Check.due("count(8)", x.count(8), 2);
        Check.due("INDEX", x.get(2, 0, -1), LEAST);
    }

    private static void items(CrownlessDays x, int s, int... due) {
        for (int i = 0; i < due.length; i++) {
            Check.due("item " + i, x.get(s, 2, i), due[i]);
        }
    }

    private static void copying() {
        CrownlessDays x = new CrownlessDays();
        Check.layAll(x, 0, 1, 2, 3, 4, 5);
        Check.due("up, onto itself", x.copy(0, 0, 0, 1, 4), 1);
        items(x, 0, 1, 1, 2, 3, 4);
        Check.layAll(x, 0, 1, 2, 3, 4, 5);
        Check.due("down, onto itself", x.copy(0, 2, 0, 0, 3), 1);
        items(x, 0, 3, 4, 5, 4, 5);
        Check.layAll(x, 1, 9, 9, 9);
        Check.due("to another", x.copy(0, 3, 1, 1, 2), 1);
        items(x, 1, 9, 4, 5);
        Check.due("none, at the end", x.copy(0, 5, 1, 3, 0), 1);
        items(x, 1, 9, 4, 5);
    }

    private static void copyFindings() {
        CrownlessDays x = new CrownlessDays();
        Check.layAll(x, 0, 1, 2, 3, 4, 5);
        Check.layAll(x, 1, 9, 9, 9);
        x.sheet(2, 1, 3);
        Check.due("BAD s", x.copy(-1, 0, 1, 0, 1), CrownlessDays.BAD);
        Check.due("BAD t", x.copy(0, 0, 4, 0, 1), CrownlessDays.BAD);
        Check.due("BAD ahead of NULL", x.copy(3, 0, 4, 0, 1), CrownlessDays.BAD);
        Check.due("NULL s", x.copy(3, 0, 0, 0, 1), -11);
        Check.due("NULL t", x.copy(0, -1, 3, 0, 1), -11);
        Check.due("STORE ahead of INDEX", x.copy(0, -1, 2, 0, 1), -14);
        Check.due("count(8)", x.count(8), 4);
        int[][] index = {
            {-1, 0, 1}, {0, -1, 1}, {0, 0, -1}, {0, 0, 4}, {3, 0, 3}, {0, 2, 2}, {6, 0, 0}, {0, 4, 0},
            {Integer.MAX_VALUE, 0, 1}, {0, Integer.MAX_VALUE, 1}, {1, 1, Integer.MAX_VALUE}, {Integer.MIN_VALUE, 0, 1},
            {0, Integer.MIN_VALUE, 1}, {0, 0, Integer.MIN_VALUE}, {Integer.MAX_VALUE, 0, Integer.MAX_VALUE}};
        for (int[] at : index) {
            Check.due("INDEX", x.copy(0, at[0], 1, at[1], at[2]), -12);
        }
        Check.due("count(8)", x.count(8), 2);
        items(x, 0, 1, 2, 3, 4, 5);
        items(x, 1, 9, 9, 9);
    }

    private static void writing() {
        CrownlessDays x = Check.with("ab2;bc3", "");
        x.set(1, 1);
        Check.layAll(x, 0, 7, 7, 7, 7, 7, 7, 7, 7, 7, 7);
        Check.due("write(0, 0)", x.write(0, 0), 8);
        items(x, 0, 1, 3, 6, -1, -1, -1, -1, -1, 7, 7);
        Check.due("write(1, 0)", x.write(1, 0), 8);
        items(x, 0, 2, 4, 7, -1, -1, -1, -1, -1, 7, 7);
        Check.layAll(x, 1, 7, 7);
        Check.due("write to two", x.write(0, 1), 2);
        items(x, 1, 1, 3);
        Check.layAll(x, 1);
        Check.due("write to none", x.write(0, 1), 0);
        Check.due("write(2, 0)", x.write(2, 0), CrownlessDays.BAD);
        Check.due("write(-1, 0)", x.write(-1, 0), CrownlessDays.BAD);
        Check.due("write(0, 4)", x.write(0, 4), CrownlessDays.BAD);
        Check.due("BAD ahead of NULL", x.write(2, 3), CrownlessDays.BAD);
        Check.due("count(8)", x.count(8), 0);
        Check.due("write to a lost one", x.write(0, 3), -11);
        Check.due("count(8)", x.count(8), 1);
    }

    private static void writingToBytes() {
        CrownlessDays x = Check.with("ab9;bc9;cd9;de9;ef9;fg9;gh9", "");
        x.set(3, 7);
        x.sheet(0, 0, 8);
        Check.due("write(1, 0)", x.write(1, 0), 8);
        Check.due("127 and more has its lowest bits", x.hears(1, 1), 136);
        Check.due("as a byte", x.get(0, 0, 1), (byte) 136);
        x.sheet(0, 1, 8);
        x.write(1, 0);
        Check.due("as a short", x.get(0, 1, 1), 136);
    }

    private static void counting() {
        CrownlessDays x = Check.with("ab2;bc3", "a1o5b;b9b4a;c0o3.");
        int[] due = {2, 3, 7, 17, 12, 2, 0, 0, 0};
        for (int what = 0; what <= 8; what++) {
            Check.due("count(" + what + ")", x.count(what), due[what]);
        }
        x.set(5, 129);
        x.seen(0, 1);
        Check.due("count(6)", x.count(6), 129);
        Check.due("count(7)", x.count(7), 1);
        Check.due("count(-1)", x.count(-1), CrownlessDays.BAD);
        Check.due("count(9)", x.count(9), CrownlessDays.BAD);
    }
}
