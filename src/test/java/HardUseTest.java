import java.util.Random;

/** Any arguments in any state: no call throws, none lasts, and the dearest calls stay cheap. */
public final class HardUseTest {
    private static final int[] ODD = {Integer.MIN_VALUE, Integer.MIN_VALUE + 1, -256, -61, -2, -1, 0, 1, 2, 3, 4, 5, 7, 8,
        9, 10, 12, 16, 17, 20, 47, 48, 59, 60, 61, 97, 99, 100, 104, 255, 256, 65536, Integer.MAX_VALUE - 1, Integer.MAX_VALUE};
    private static Random lots = new Random(20261117);

    public static void main(String[] args) {
        oddArguments();
        dearestCalls();
        Check.end();
    }

    private static int odd() {
        return ODD[lots.nextInt(ODD.length)];
    }

    private static void oddArguments() {
        for (int object = 0; object < 500; object++) {
            CrownlessDays x = new CrownlessDays();
            for (int i = 0; i < 512 - 3; i++) {
                call(x, lots.nextInt(31));
            }
            Check.holds("the answers stay in their range", x.count(2) <= 47 && x.count(3) <= 47 && x.count(7) <= 8);
        }
    }

    private static long call(CrownlessDays x, int which) {
        int a = odd(), b = odd(), c = odd(), d = odd();
        return switch (which) {
            case 0 -> x.type(a, b);
            case 1 -> x.wipe(a);
            case 2 -> x.undo(a);
            case 3 -> x.fault(a);
            case 4 -> x.road(a, b);
            case 5 -> x.person(a, b);
            case 6 -> x.set(a, b);
            case 7 -> x.way(a, b);
            case 8 -> x.hears(a, b);
            case 9 -> x.crowned();
            case 10 -> x.knew(a);
            case 11 -> x.rides(a, b);
            case 12 -> x.lost(a);
            case 13 -> x.swear(a);
            case 14 -> x.place(a);
            case 15 -> x.litter(a);
            case 16 -> x.seen(a, b);
            case 17 -> x.forget();
            case 18 -> x.read(a);
            case 19 -> x.fits(a);
            case 20 -> x.ask();
            case 21 -> x.out(a, b, c, d);
            case 22 -> x.reigns(a, b, c);
            case 23 -> x.sheet(a, b, c);
            case 24 -> x.lose(a);
            case 25 -> x.lay(a, b, c, d);
            case 26 -> x.get(a, b, c);
            case 27 -> x.copy(a, b, c, d, odd());
            case 28 -> x.write(a, b);
            case 29 -> x.count(a);
            default -> x.digest();
        };
    }

    private static void dearestCalls() {
        CrownlessDays x = Check.with("ab1;ac1;ad1;bc1;bd1;cd1;ef1;eg1;fg1;de1;ah1;hg1",
                "a9b9b;b5b9c;c9c9d;d3o9e;e9b9f;f1b9g;g9b9h;h9b9a");
        long first = x.digest();
        for (int i = 0; i < 300; i++) {
            Check.due("digest", x.digest(), first);
        }
    }
}
