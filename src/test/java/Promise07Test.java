/** person: town, guard, kind, riches and score of a person. */
public final class Promise07Test extends Promise {
    public static void main(String[] args) {
        test(7, "TOWNS are 0 to 7", () -> {
            CrownlessDays x = with("", "a1o1.;h1o1.");
            due("person(0, 0)", x.person(0, 0), 0);
            due("person(1, 0)", x.person(1, 0), 7);
        });
        test(7, "GUARD is 0 to 9", () -> {
            CrownlessDays x = with("", "a0o1.;a9o1.");
            due("person(0, 1)", x.person(0, 1), 0);
            due("person(1, 1)", x.person(1, 1), 9);
        });
        test(7, "kinds are 0 o, 1 b, 2 c", () -> {
            CrownlessDays x = with("", "a1o1.;a1b1.;a1c1.");
            for (int p = 0; p < 3; p++) {
                due("person(" + p + ", 2)", x.person(p, 2), p);
            }
        });
        test(7, "RICH is 0 to 9", () -> {
            CrownlessDays x = with("", "a1o0.;a1o9.");
            due("person(0, 3)", x.person(0, 3), 0);
            due("person(1, 3)", x.person(1, 3), 9);
        });
        test(7, "SCORE is 0 to 7 as told, be there such a one or not; NONE", () -> {
            CrownlessDays x = with("", "a1o1a;a1o1h;a1o1.");
            due("person(0, 4)", x.person(0, 4), 0);
            due("person(1, 4)", x.person(1, 4), 7);
            due("person(2, 4)", x.person(2, 4), NONE);
        });
        test(7, "8 PERSONS at most, 0 on", () -> {
            CrownlessDays x = full();
            for (int p = 0; p < 8; p++) {
                due("person(" + p + ", 0)", x.person(p, 0), p);
                due("person(" + p + ", 1)", x.person(p, 1), 9 - p);
                due("person(" + p + ", 2)", x.person(p, 2), "obc".indexOf(EIGHT_PERSONS.charAt(6 * p + 2)));
                due("person(" + p + ", 3)", x.person(p, 3), p + 1);
                due("person(" + p + ", 4)", x.person(p, 4), p == 7 ? NONE : p + 1);
            }
            refused("person(8, 0)", BAD, Promise::full, y -> y.person(8, 0));
        });
        test(7, "a PERSON that there is not is BAD", () -> {
            refused("person(5, 0) of five", BAD, x -> x.person(5, 0));
            refused("person(most, 0)", BAD, x -> x.person(MOST, 0));
            due("person(0, 0) of none", new CrownlessDays().person(0, 0), BAD);
        });
        test(7, "a PERSON below 0 is BAD", () -> {
            refused("person(-1, 0)", BAD, x -> x.person(-1, 0));
            refused("person(least, 0)", BAD, x -> x.person(LEAST, 0));
        });
        test(7, "what below 0 is BAD", () -> {
            refused("person(0, -1)", BAD, x -> x.person(0, -1));
            refused("person(0, least)", BAD, x -> x.person(0, LEAST));
        });
        test(7, "what above 4 is BAD", () -> {
            refused("person(0, 5)", BAD, x -> x.person(0, 5));
            refused("person(0, most)", BAD, x -> x.person(0, MOST));
        });
        test(7, "of a text with a FAULT each is BAD", () -> {
            CrownlessDays x = with("", "a1o1.;b");
            due("person(0, 0)", x.person(0, 0), BAD);
            due("person(1, 0)", x.person(1, 0), BAD);
        });
        Check.end();
    }
}
