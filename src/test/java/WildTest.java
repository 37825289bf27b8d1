import java.util.Random;

/**
 * Any arguments in any state: no call throws, each ends, the same calls give the same answers, and answers stay
 * in their bounds.
 */
public final class WildTest {
    private static final Due DUE = new Due("WildTest");
    private static final int[] EDGES = {Integer.MIN_VALUE, Integer.MIN_VALUE + 1, -1000, -2, -1, 0, 1, 2, 3, 4, 5, 6, 7, 8, 9,
        10, 11, 12, 15, 16, 19, 20, 21, 30, 31, 40, 41, 59, 60, 61, 99, 100, 101, 198, 199, 200, 201, 381, 400, 401, 9999,
        10000, 99999, Integer.MAX_VALUE - 1, Integer.MAX_VALUE};
    private static final String[] BITS = {"shame ", "walks ", "storm ", "when ", "or ", "and ", "not ", "deed ", "bad ", "long ",
        "pace ", "nerve ", "left ", "mile ", "wind ", "year ", "strong ", "in ", "kiosk ", "bed ", "lamp ", "on ", ";", "+", "-",
        "*", "/", "(", ")", "<", "=", ">", "0 ", "1 ", "7 ", "199 ", "999 ", "12345 ", "\n", "?", "\u00e9", "X", "in 0 deed 1 bad 9;",
        "kiosk 3;", "bed 9;", "on 0 0;", "storm 999;", "walks 9;", "shame 20 when long<99;"};

    public static void main(String[] args) {
        for (int seed = 0; seed < 4000; seed++) {
            DUE.is("seed " + seed + " once more", run(seed), run(seed));
        }
        DUE.close();
    }

    private static long run(int seed) {
        Random random = new Random(seed);
        PierTooFar x = new PierTooFar();
        long answers = 7;
        boolean mild = seed % 2 == 0;
        for (int step = 0; step < 200; step++) {
            answers = 31 * answers + any(x, random, mild);
            if (step % 20 == 0) {
                bounds(x);
            }
        }
        return answers;
    }

    private static void bounds(PierTooFar x) {
        int length = x.look(1);
        DUE.promise(40);
        boolean fine = length >= 0 && length <= 200 && x.look(2) >= 0 && x.look(2) <= length && x.look(15) >= 0
                && x.look(15) <= 6 && x.look(9) >= 0 && x.look(9) <= 150 && x.look(4) <= 9999 && x.look(5) <= 99999;
        DUE.yes("bounds", fine);
    }

    private static int number(Random random, boolean mild) {
        if (mild && random.nextInt(4) > 0) {
            return random.nextInt(12);
        }
        int sort = random.nextInt(12);
        return sort == 0 ? random.nextInt() : sort < 6 ? EDGES[random.nextInt(EDGES.length)] : random.nextInt(210) - 3;
    }

    private static long any(PierTooFar x, Random random, boolean mild) {
        int a = number(random, mild);
        int b = number(random, mild);
        int c = number(random, mild);
        int which = random.nextInt(42);
        return which < 20 ? tellOrDo(x, random, which, a, b, c) : think(x, which, a, b, c);
    }

    private static long tellOrDo(PierTooFar x, Random random, int which, int a, int b, int c) {
        switch (which) {
            case 0:
                return x.state(a);
            case 1:
                return x.walker(a, b, c);
            case 2:
            case 3:
                return x.set(a, b, c) ? 1 : 0;
            case 4:
                return x.owns(a, b);
            case 5:
            case 6:
                return x.act(a, b) ? 1 : 0;
            case 7:
                return x.years(a);
            case 8:
                return x.days(a);
            case 9:
                return x.feed(a, b, c, random.nextInt(), random.nextInt());
            case 10:
                return x.end(a) ? 1 : 0;
            case 11:
            case 12:
            case 13:
                return text(x, random, a);
            case 14:
                return x.text(a);
            case 15:
                return x.fault(a);
            case 16:
                return x.of(a, b);
            case 17:
                return x.undo() ? 1 : 0;
            case 18:
                return x.image((a & 1) == 0) ? 1 : 0;
            default:
                return x.look(a);
        }
    }

    private static long text(PierTooFar x, Random random, int k) {
        StringBuilder text = new StringBuilder();
        for (int i = random.nextInt(30); i > 0; i--) {
            String bit = BITS[random.nextInt(BITS.length)];
            text.append(text.length() + bit.length() <= 380 ? bit : "");
        }
        x.end(0);
        return Due.tell(x, Math.floorMod(k, 4), text.toString());
    }

    private static long think(PierTooFar x, int which, int a, int b, int c) {
        switch (which) {
            case 20:
                return x.mile(a, b);
            case 21:
                return x.shame(a, b);
            case 22:
                return x.book(a, b);
            case 23:
                return x.goes(a, b);
            case 24:
                return x.far(a, b);
            case 25:
                return x.next(a);
            case 26:
                return x.want(a, b);
            case 27:
                return x.serves(a, b);
            case 28:
                return x.boats(a);
            case 29:
                return x.talk(a, b, c);
            case 30:
                return x.said(a, b, c);
            case 31:
                return x.did(a, b);
            case 32:
                return x.fits(a);
            case 33:
                return x.deed(a, b);
            case 34:
                return x.ownsUp(a, b);
            case 35:
                return 31L * x.price(a) + x.prices(b);
            case 36:
                return x.lamp(a, b, c) ? 1 : 0;
            case 37:
                return x.reads(a, b);
            case 38:
                return x.odds(a, b) ? 1 : 0;
            case 39:
                return x.strength(a, b);
            case 40:
                return 31L * x.sleeps(a) + x.game(b);
            default:
                return x.meets(a, b, c);
        }
    }
}
