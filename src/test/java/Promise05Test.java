/** fault: the place of the first byte with which a text cannot go on. */
public final class Promise05Test extends Promise {
    public static void main(String[] args) {
        test(5, "an empty one is well", () -> {
            fault(0, "", NONE);
            fault(1, "", NONE);
        });
        endOfWhatIsNotEnded();
        bytesOfRoads();
        bytesOfPersons();
        test(5, "a well one ends behind each whole item", () -> {
            fault(0, "ab1", NONE);
            fault(0, "ab1;ba1", NONE);
            fault(1, "a1o1.", NONE);
            fault(1, "a1o1.;a1o1.", NONE);
        });
        test(5, "with ; between them and nothing else", () -> {
            fault(0, "ab1:", 3);
            fault(0, "ab1 ", 3);
            fault(0, "ab12", 3);
            fault(0, "ab1cd1", 3);
            fault(0, ";", 0);
            fault(0, "ab1;;", 4);
            fault(1, "a1o1.:", 5);
            fault(1, "a1o1.a", 5);
            fault(1, ";", 0);
            fault(1, "a1o1.;;", 6);
        });
        test(5, "it is the first byte, whatever follows", () -> {
            fault(0, "aa1;zz", 1);
            fault(0, "ab1;zb1", 4);
            fault(0, "zb1;ab1", 0);
            fault(1, "a1x1.;z", 2);
        });
        test(5, "of two like TOWNS the second", () -> {
            for (char t = 'a'; t <= 'h'; t++) {
                fault(0, "" + t + t, 1);
            }
            fault(0, "ab1;hh9", 5);
        });
        test(5, "12 ROADS are well", () -> fault(0, TWELVE_ROADS, NONE));
        test(5, "8 PERSONS are well", () -> fault(1, EIGHT_PERSONS, NONE));
        test(5, "one too many cannot be typed: the text is FULL ahead of it", () -> {
            CrownlessDays x = full();
            due("type(0, ';')", x.type(0, ';'), FULL);
            due("type(1, ';')", x.type(1, ';'), FULL);
            due("fault(0)", x.fault(0), NONE);
            due("fault(1)", x.fault(1), NONE);
        });
        test(5, "the last place is 46", () -> {
            fault(0, TWELVE_ROADS.substring(0, 46) + "0", 46);
            fault(1, EIGHT_PERSONS.substring(0, 46) + "i", 46);
        });
        aFaultyTextIsAsIfEmpty();
        test(5, "a text below 0 is BAD", () -> {
            refused("fault(-1)", BAD, x -> x.fault(-1));
            refused("fault(least)", BAD, x -> x.fault(LEAST));
        });
        test(5, "a text above 1 is BAD", () -> {
            refused("fault(2)", BAD, x -> x.fault(2));
            refused("fault(most)", BAD, x -> x.fault(MOST));
        });
        Check.end();
    }

    private static void fault(int text, String bytes, int want) {
        CrownlessDays x = new CrownlessDays();
        typeIn(x, text, bytes);
        due("fault of \"" + bytes + "\"", x.fault(text), want);
    }

    /** Each byte that may stand behind a beginning, and no other. */
    private static void next(int text, String beginning, String may, String ending) {
        for (int b = 0; b <= 255; b++) {
            boolean well = may.indexOf(b) >= 0;
            fault(text, beginning + (char) b + ending, well ? NONE : beginning.length());
        }
    }

    private static void endOfWhatIsNotEnded() {
        test(5, "of ROADS that are not ended, the end", () -> {
            fault(0, "a", 1);
            fault(0, "ab", 2);
            fault(0, "ab1;", 4);
            fault(0, "ab1;c", 5);
            fault(0, TWELVE_ROADS.substring(0, 46), 46);
        });
        test(5, "of PERSONS that are not ended, the end", () -> {
            for (int n = 1; n <= 4; n++) {
                fault(1, "a1o1.".substring(0, n), n);
            }
            fault(1, "a1o1.;", 6);
            fault(1, EIGHT_PERSONS.substring(0, 46), 46);
        });
    }

    private static void bytesOfRoads() {
        test(5, "a ROAD begins with a letter a to h", () -> {
            for (String before : new String[] {"", "ab1;"}) {
                for (int b = 0; b <= 255; b++) {
                    String unlike = b == 'a' ? "b1" : "a1";
                    fault(0, before + (char) b + unlike, b >= 'a' && b <= 'h' ? NONE : before.length());
                }
            }
        });
        test(5, "a ROAD's second is a letter a to h, unlike", () -> {
            next(0, "a", "bcdefgh", "1");
            next(0, "h", "abcdefg", "1");
        });
        test(5, "a ROAD ends with a figure 1 to 9", () -> next(0, "ab", "123456789", ""));
    }

    private static void bytesOfPersons() {
        test(5, "a PERSON begins with a letter a to h", () -> next(1, "", "abcdefgh", "1o1."));
        test(5, "a PERSON's GUARD is a figure 0 to 9", () -> next(1, "a", "0123456789", "o1."));
        test(5, "a PERSON's letter is o, b or c", () -> next(1, "a1", "obc", "1."));
        test(5, "how RICH is a figure 0 to 9", () -> next(1, "a1o", "0123456789", "."));
        test(5, "a SCORE is . or a letter a to h", () -> next(1, "a1o1", ".abcdefgh", ""));
    }

    private static void aFaultyTextIsAsIfEmpty() {
        test(5, "ROADS with a FAULT are as if empty", () -> {
            CrownlessDays x = with("ab1;cd2;", EIGHT_PERSONS);
            due("count(0)", x.count(0), 0);
            due("road(0, 0)", x.road(0, 0), BAD);
            due("way(0, 1)", x.way(0, 1), NONE);
            due("knew(99)", x.knew(99), 1);
            due("out(0, 1, 99, 0)", x.out(0, 1, 99, 0), 0);
            due("bytes", x.count(2), 8);
            due("PERSONS stay", x.count(1), 8);
        });
        test(5, "PERSONS with a FAULT are as if empty", () -> {
            CrownlessDays x = neverCrowned("ab1", "a9o9b;a0o9.;");
            due("count(1)", x.count(1), 0);
            due("person(0, 0)", x.person(0, 0), BAD);
            due("rides(0, 0)", x.rides(0, 0), BAD);
            due("count(4)", x.count(4), 0);
            due("count(5)", x.count(5), 0);
            due("lost(0)", x.lost(0), 0);
            due("bytes", x.count(3), 12);
            due("ROADS stay", x.count(0), 1);
        });
    }
}
