/** Promises 27 to 37 and their Terms, sentence by sentence: SHAMES, PRICES, LAMPS, STRENGTH, SLEEPS, MEETS, PLANKS. */
final class EdgesOfMoreThought {
    private static final int LEAST = Edges.LEAST;
    private static final int MOST = Edges.MOST;

    private EdgesOfMoreThought() {
    }

    static void run() {
        deedTold();
        deedRefused();
        ownsUpHides();
        ownsUpLeast();
        ownsUpRefused();
        priceTold();
        priceRefused();
        pricesRaised();
        pricesRefused();
        lampTold();
        lampRefused();
        prefix();
        readsWays();
        readsRefused();
        oddsTold();
        oddsRefused();
        strengthParts();
        strengthBest();
        strengthExact();
        strengthMillionth();
        strengthRefused();
        sleepsBeds();
        sleepsNights();
        sleepsRefused();
        meetsDays();
        meetsMile();
        meetsRefused();
        planksTaken();
        planksBegin();
        planksRefused();
    }

    private static void deedTold() {
        Edges.holds("Promise 27", "SHAMES: a deed more (worth NONE: none is then): how many");
        PierTooFar x = new PierTooFar();
        Edges.is("deed(-1, 0) of none", x.deed(-1, 0), 0);
        for (int i = 1; i <= 10; i++) {
            Edges.is("deed(99, 9)", x.deed(99, 9), i);
        }
        Edges.is("ownsUp(0, 0)", x.ownsUp(0, 0), 990);
        Edges.is("deed(-1, 9)", x.deed(-1, 9), 0);
        Edges.is("ownsUp(0, 0)", x.ownsUp(0, 0), 0);
        Edges.is("deed(0, 0)", x.deed(0, 0), 1);
    }

    private static void deedRefused() {
        Edges.holds("Promise 27", "NONE if one can't be, or there are ten.");
        Edges.answers("deed(v, 0)", -2, 0, 99, v -> new PierTooFar().deed(v, 0), v -> 1);
        Edges.answers("deed(0, v)", 0, 9, v -> new PierTooFar().deed(0, v), v -> 1);
        Edges.is("the 11th deed", tenDeeds().deed(1, 1), -1);
        Edges.stays("the 11th deed", EdgesOfMoreThought::tenDeeds, x -> x.deed(99, 9));
        Edges.stays("deed() of what can't be", Edges::busy, x -> {
            x.deed(100, 9);
            x.deed(-2, 9);
            x.deed(0, 10);
            x.deed(0, -1);
        });
    }

    private static PierTooFar tenDeeds() {
        PierTooFar x = new PierTooFar();
        for (int i = 0; i < 10; i++) {
            x.deed(10 + i, i);
        }
        return x;
    }

    private static void ownsUpHides() {
        Edges.holds("Terms 4", "SHAMES, up to 10 told deeds (worth 0 .. 99, hides 0 .. 9): OWNS of h (0 .. 40):"
                + " those owned to so that what is not owned to hides h together at most: the least worth owned to");
        PierTooFar x = new PierTooFar();
        Edges.is("ownsUp(0, 0) of none", x.ownsUp(0, 0), 0);
        Edges.is("ownsUp(40, 1) of none", x.ownsUp(40, 1), 0);
        x.deed(99, 9);
        Edges.is("ownsUp(8, 0)", x.ownsUp(8, 0), 99);
        Edges.is("ownsUp(9, 0)", x.ownsUp(9, 0), 0);
        x.deed(-1, 0);
        for (int i = 0; i < 10; i++) {
            x.deed(10 + i, 4);
        }
        Edges.is("ownsUp(40, 0): all ten hide 40", x.ownsUp(40, 0), 0);
        Edges.is("ownsUp(39, 0): one is owned to", x.ownsUp(39, 0), 10);
        Edges.is("ownsUp(36, 0)", x.ownsUp(36, 0), 10);
        Edges.is("ownsUp(35, 0)", x.ownsUp(35, 0), 21);
        Edges.is("ownsUp(4, 0): all but the dearest", x.ownsUp(4, 0), 126);
        Edges.is("ownsUp(3, 0): all", x.ownsUp(3, 0), 145);
        Edges.is("ownsUp(0, 1): all", x.ownsUp(0, 1), 1023);
        x.deed(-1, 0);
        x.deed(50, 0);
        x.deed(7, 3);
        Edges.is("ownsUp(0, 1): what hides nothing is not owned to", x.ownsUp(0, 1), 2);
    }

    private static void ownsUpLeast() {
        Edges.holds("Terms 4", "the set (of several the least).");
        PierTooFar x = new PierTooFar();
        x.deed(6, 3);
        x.deed(2, 1);
        x.deed(4, 2);
        Edges.is("ownsUp(3, 0): the first, or the two others", x.ownsUp(3, 0), 6);
        Edges.is("ownsUp(3, 1)", x.ownsUp(3, 1), 1);
        x.deed(-1, 0);
        x.deed(2, 1);
        x.deed(4, 2);
        x.deed(6, 3);
        Edges.is("ownsUp(3, 1): the least, not the fewest", x.ownsUp(3, 1), 3);
        x.deed(-1, 0);
        x.deed(0, 1);
        x.deed(0, 1);
        Edges.is("ownsUp(2, 1): worth nothing, but not needed", x.ownsUp(2, 1), 0);
        Edges.is("ownsUp(1, 1): one of two alike", x.ownsUp(1, 1), 1);
        Edges.is("ownsUp(0, 1)", x.ownsUp(0, 1), 3);
    }

    private static void ownsUpRefused() {
        Edges.holds("Promise 28", "OWNS what 0 worth, 1 the set. NONE if h can't be, or another what.");
        PierTooFar y = new PierTooFar();
        y.deed(5, 9);
        Edges.is("ownsUp(8, 0)", y.ownsUp(8, 0), 5);
        Edges.is("ownsUp(8, 1)", y.ownsUp(8, 1), 1);
        for (int what = 0; what <= 1; what++) {
            int sort = what;
            Edges.answers("ownsUp(v, " + what + ")", 0, 40, v -> new PierTooFar().ownsUp(v, sort), v -> 0);
            Edges.is("ownsUp(-1, " + what + ")", y.ownsUp(-1, what), -1);
            Edges.is("ownsUp(41, " + what + ")", y.ownsUp(41, what), -1);
        }
        for (int what : Edges.others(-1, 2)) {
            Edges.is("ownsUp(0, " + what + ")", y.ownsUp(0, what), -1);
        }
    }

    private static void priceTold() {
        Edges.holds("Promise 29", "PRICES: one more (NONE: none is then): how many");
        PierTooFar x = new PierTooFar();
        Edges.is("price(-1) of none", x.price(-1), 0);
        for (int i = 1; i <= 8; i++) {
            Edges.is("price(" + (10 - i) + ")", x.price(10 - i), i);
        }
        Edges.is("prices(0)", x.prices(0), 28);
        Edges.is("price(-1)", x.price(-1), 0);
        Edges.is("prices(1)", x.prices(1), 0);
        Edges.is("price(99)", x.price(99), 1);
    }

    private static void priceRefused() {
        Edges.holds("Promise 29", "NONE if one can't be, or there are eight.");
        Edges.answers("price(v)", -2, 1, 99, v -> new PierTooFar().price(v), v -> 1);
        Edges.is("price(0)", new PierTooFar().price(0), -1);
        Edges.is("price(100)", new PierTooFar().price(100), -1);
        Edges.is("the ninth price", eightPrices().price(1), -1);
        Edges.stays("the ninth price", EdgesOfMoreThought::eightPrices, x -> x.price(1));
        Edges.stays("price() of what can't be", Edges::busy, x -> {
            x.price(0);
            x.price(100);
            x.price(-2);
        });
    }

    private static PierTooFar eightPrices() {
        PierTooFar x = new PierTooFar();
        for (int i = 0; i < 8; i++) {
            x.price(30 + i * i % 5);
        }
        return x;
    }

    private static void prices(int[] told, int sum, int highest) {
        PierTooFar x = new PierTooFar();
        for (int v : told) {
            x.price(v);
        }
        String of = " of " + java.util.Arrays.toString(told);
        Edges.is("prices(0)" + of, x.prices(0), sum);
        Edges.is("prices(1)" + of, x.prices(1), highest);
    }

    private static void pricesRaised() {
        Edges.holds("Terms 4", "PRICES: told prices 1 .. 99 of up to 8 kiosks by MILE order (each one further out):"
                + " none turns sooner, if they go down nowhere: the least sum of what is told more"
                + " (each price may be raised) so that it is so; the highest price then.");
        prices(new int[] {}, 0, 0);
        prices(new int[] {1}, 0, 1);
        prices(new int[] {99}, 0, 99);
        prices(new int[] {5, 5}, 0, 5);
        prices(new int[] {5, 6}, 0, 6);
        prices(new int[] {6, 5}, 1, 6);
        prices(new int[] {5, 3, 8, 6}, 4, 8);
        prices(new int[] {1, 2, 3, 4, 5, 6, 7, 8}, 0, 8);
        prices(new int[] {99, 1, 1, 1, 1, 1, 1, 1}, 686, 99);
        prices(new int[] {1, 1, 1, 1, 1, 1, 1, 99}, 0, 99);
        prices(new int[] {3, 9, 4, 9, 8, 10, 2, 9}, 5 + 1 + 8 + 1, 10);
    }

    private static void pricesRefused() {
        Edges.holds("Promise 30", "PRICES what 0 the sum of what is more, 1 the highest (0: none). NONE for another what.");
        PierTooFar x = new PierTooFar();
        Edges.is("prices(0) of none", x.prices(0), 0);
        Edges.is("prices(1) of none", x.prices(1), 0);
        x.price(9);
        x.price(4);
        Edges.is("prices(0)", x.prices(0), 5);
        Edges.is("prices(1)", x.prices(1), 9);
        for (int what : Edges.others(-1, 2)) {
            Edges.is("prices(" + what + ")", x.prices(what), -1);
        }
    }

    private static void lampTold() {
        Edges.holds("Promise 31", "LAMPS: the code of a WORD: n (0 .. 5; 0: none) lamps as bits (bit 0 the first): true");
        PierTooFar x = new PierTooFar();
        for (int n = 1; n <= 5; n++) {
            for (int bits = 0; bits < 1 << n; bits++) {
                Edges.yes("lamp(7, " + n + ", " + bits + ")", x.lamp(7, n, bits));
                Edges.is("reads(" + n + ", " + bits + ")", x.reads(n, bits), 1);
                Edges.is("reads(" + n + ", " + (bits ^ 1) + ")", x.reads(n, bits ^ 1), n == 1 || bits != (bits ^ 1) ? 0 : 1);
            }
        }
        Edges.yes("lamp(7, 0, 0)", x.lamp(7, 0, 0));
        Edges.is("reads(5, 31): no word", x.reads(5, 31), 0);
        x = new PierTooFar();
        x.lamp(0, 2, 1);
        x.lamp(1, 1, 0);
        Edges.is("reads(3, 1): the first flash is bit 0", x.reads(3, 1), 1);
        Edges.is("reads(3, 4): 1 is last alone", x.reads(3, 4), 0);
        Edges.is("reads(3, 2): 0, then 10", x.reads(3, 2), 1);
    }

    private static void lampRefused() {
        Edges.holds("Promise 31", "false if one can't be.");
        Edges.range("lamp(v, 1, 1)", 0, 7, v -> new PierTooFar().lamp(v, 1, 1));
        Edges.range("lamp(0, v, 0)", 0, 5, v -> new PierTooFar().lamp(0, v, 0));
        Edges.range("lamp(0, 1, v)", 0, 1, v -> new PierTooFar().lamp(0, 1, v));
        Edges.range("lamp(7, 5, v)", 0, 31, v -> new PierTooFar().lamp(7, 5, v));
        Edges.stays("lamp() of what can't be", Edges::busy, x -> {
            x.lamp(8, 1, 0);
            x.lamp(-1, 1, 0);
            x.lamp(1, 6, 0);
            x.lamp(1, -1, 0);
            x.lamp(1, 1, 2);
            x.lamp(1, 1, -1);
        });
    }

    private static void prefix() {
        Edges.holds("Terms 4", "LAMPS: the codes of WORDS 0 .. 7 (told rows of 1 .. 5 lamps, 0 or 1 each; empty at first):"
                + " PREFIX: couples of told words of two numbers of which one begins the other one (equal ones, too).");
        PierTooFar x = new PierTooFar();
        Edges.is("reads(-1, 0): empty at first", x.reads(-1, 0), 0);
        x.lamp(0, 1, 0);
        Edges.is("reads(-1, 0): one word, not a couple with itself or with those that are none", x.reads(-1, 0), 0);
        x.lamp(7, 1, 1);
        Edges.is("reads(-1, 0): 0 and 1", x.reads(-1, 0), 0);
        x.lamp(3, 5, 30);
        Edges.is("reads(-1, 0): 0 begins 01111", x.reads(-1, 0), 1);
        x.lamp(4, 5, 14);
        Edges.is("reads(-1, 0): 0 begins 01110, too; the last lamp is another one", x.reads(-1, 0), 2);
        x.lamp(4, 5, 30);
        Edges.is("reads(-1, 0): equal ones, too", x.reads(-1, 0), 3);
        x.lamp(4, 4, 14);
        Edges.is("reads(-1, 0): 0111 begins 01111", x.reads(-1, 0), 3);
        x.lamp(0, 0, 0);
        Edges.is("reads(-1, 0): 0 is none now", x.reads(-1, 0), 1);
        for (int word = 0; word < 8; word++) {
            x.lamp(word, 1 + word % 5, 0);
        }
        Edges.is("reads(-1, 0): all couples of eight", x.reads(-1, 0), 28);
    }

    private static void readsWays() {
        Edges.holds("Terms 4",
                "READS of up to 10 told flashes (bits and how many): in how many ways they are words one behind the other (no flash: 1).");
        PierTooFar x = new PierTooFar();
        Edges.is("reads(0, 0): no flash", x.reads(0, 0), 1);
        Edges.is("reads(1, 0): no word", x.reads(1, 0), 0);
        x.lamp(0, 1, 0);
        Edges.is("reads(0, 0): no flash", x.reads(0, 0), 1);
        Edges.is("reads(10, 0): ten words", x.reads(10, 0), 1);
        Edges.is("reads(10, 512): the tenth flash", x.reads(10, 512), 0);
        x.lamp(1, 2, 0);
        int[] ways = {1, 1, 2, 3, 5, 8, 13, 21, 34, 55, 89};
        for (int n = 0; n <= 10; n++) {
            Edges.is("reads(" + n + ", 0) by one and two", x.reads(n, 0), ways[n]);
        }
        for (int word = 0; word < 8; word++) {
            x.lamp(word, 1, 1);
        }
        Edges.is("reads(10, 1023): eight words each", x.reads(10, 1023), 1073741824);
        for (int word = 0; word < 8; word++) {
            x.lamp(word, 5, 21);
        }
        Edges.is("reads(10, 693): two of five lamps", x.reads(10, 693), 64);
        Edges.is("reads(9, 181)", x.reads(9, 181), 0);
    }

    private static void readsRefused() {
        Edges.holds("Promise 32", "PREFIX (n NONE), READS of n (0 .. 10) flashes as bits: in how many ways. NONE if one can't be.");
        Edges.answers("reads(v, 0)", -2, 0, 10, v -> new PierTooFar().reads(v, 0), v -> v == 0 ? 1 : 0);
        Edges.is("reads(-1, 0): PREFIX", new PierTooFar().reads(-1, 0), 0);
        for (int n : new int[] {1, 2, 9, 10}) {
            Edges.range("reads(" + n + ", v) or NONE", 0, (1 << n) - 1, v -> new PierTooFar().reads(n, v) != -1);
        }
    }

    private static void oddsTold() {
        Edges.holds("Promise 33", "Odds of a part (0 .. 9): true");
        for (int part = 0; part < 10; part++) {
            PierTooFar x = new PierTooFar();
            Edges.is("strength(0, 1) at first", x.strength(0, 1), 1000000);
            Edges.yes("odds(" + part + ", 40)", x.odds(part, 40));
            Edges.is("strength(0, 1)", x.strength(0, 1), 600000);
            Edges.is("strength(1, 0)", x.strength(1, 0), 1 << part);
            Edges.yes("odds(" + part + ", 100)", x.odds(part, 100));
            Edges.is("strength(0, 1)", x.strength(0, 1), 0);
            Edges.yes("odds(" + part + ", 0)", x.odds(part, 0));
            Edges.is("strength(0, 1)", x.strength(0, 1), 1000000);
        }
    }

    private static void oddsRefused() {
        Edges.holds("Promise 33", "false if one can't be.");
        Edges.range("odds(v, 5)", 0, 9, v -> new PierTooFar().odds(v, 5));
        Edges.range("odds(0, v)", 0, 100, v -> new PierTooFar().odds(0, v));
        Edges.stays("odds() of what can't be", Edges::busy, x -> {
            x.odds(10, 50);
            x.odds(-1, 50);
            x.odds(4, 101);
            x.odds(4, -1);
        });
    }

    private static void strengthParts() {
        Edges.holds("Terms 4", "STRENGTH of n (0 .. 5): told odds 0 .. 100 of ten parts (of a hundred, that it breaks; 0 at first),"
                + " halved (downwards) where it is strengthened: the n parts at most");
        PierTooFar x = new PierTooFar();
        for (int n = 0; n <= 5; n++) {
            Edges.is("strength(" + n + ", 0), odds being 0 at first", x.strength(n, 0), 0);
            Edges.is("strength(" + n + ", 1)", x.strength(n, 1), 1000000);
        }
        for (int part = 0; part < 10; part++) {
            x.odds(part, 50);
        }
        for (int n = 0; n <= 5; n++) {
            Edges.is("strength(" + n + ", 0): the n first ones of ten alike", x.strength(n, 0), (1 << n) - 1);
        }
        x = new PierTooFar();
        x.odds(9, 1);
        Edges.is("strength(1, 0)", x.strength(1, 0), 512);
        Edges.is("strength(1, 1): half of 1, downwards", x.strength(1, 1), 1000000);
        x.odds(9, 3);
        Edges.is("strength(1, 1): half of 3, downwards", x.strength(1, 1), 990000);
        x.odds(9, 100);
        Edges.is("strength(1, 1): half of 100", x.strength(1, 1), 500000);
        Edges.is("strength(0, 1)", x.strength(0, 1), 0);
    }

    private static void strengthBest() {
        Edges.holds("Terms 4", "for which the chance that none breaks is greatest (compared exactly by products;"
                + " of several sets the fewest, then the least): the set");
        PierTooFar x = new PierTooFar();
        x.odds(3, 33);
        x.odds(8, 33);
        Edges.is("strength(1, 0): of two alike the least", x.strength(1, 0), 8);
        Edges.is("strength(5, 0): the fewest", x.strength(5, 0), 264);
        x.odds(8, 34);
        Edges.is("strength(1, 0): 83 for 66 is more than 84 for 67", x.strength(1, 0), 256);
        x.odds(1, 100);
        Edges.is("strength(1, 0): else it breaks for sure", x.strength(1, 0), 2);
        x.odds(2, 100);
        Edges.is("strength(1, 0): 0 in any case, so the fewest", x.strength(1, 0), 0);
        Edges.is("strength(2, 0)", x.strength(2, 0), 6);
        Edges.is("strength(3, 0)", x.strength(3, 0), 262);
        for (int part = 0; part < 10; part++) {
            x.odds(part, 1);
        }
        Edges.is("strength(5, 0): products of ten above 98", x.strength(5, 0), 31);
        x.odds(9, 2);
        Edges.is("strength(1, 0): 100 for 99 is less than 99 for 98", x.strength(1, 0), 512);
        for (int part = 0; part < 10; part++) {
            x.odds(part, 99);
        }
        x.odds(6, 98);
        Edges.is("strength(1, 0): 51 for 1 is more than 51 for 2, though each is 0 of a million", x.strength(1, 0), 1);
        Edges.is("strength(1, 1)", x.strength(1, 1), 0);
        Edges.is("strength(5, 0)", x.strength(5, 0), 31);
        x.odds(6, 99);
        for (int part = 0; part < 10; part++) {
            x.odds(part, 100);
            Edges.is("strength(1, 0): all else is 0", x.strength(1, 0), 1 << part);
            x.odds(part, 99);
        }
    }

    /** Each set was found by products of 128 bits; the next one is nearer to it than doubles, ints or a million can tell. */
    private static void strengthExact() {
        Edges.holds("Terms 4", "(compared exactly by products; of several sets the fewest, then the least)");
        int[][] odds = {{12, 6, 9, 9, 13, 11, 2, 11, 18, 18}, {18, 5, 6, 6, 15, 11, 6, 2, 18, 6}, {19, 16, 11, 19, 0, 3, 5, 15, 14, 19},
            {61, 1, 61, 61, 81, 81, 21, 82, 0, 1}, {82, 62, 2, 61, 20, 41, 42, 41, 82, 21}, {97, 80, 83, 97, 96, 86, 93, 100, 94, 82},
            {82, 84, 81, 80, 85, 83, 87, 96, 99, 80}, {97, 98, 90, 90, 98, 89, 81, 80, 93, 80}, {3, 4, 3, 4, 10, 9, 14, 11, 15, 18},
            {3, 14, 17, 0, 9, 15, 8, 4, 10, 19}, {10, 19, 19, 16, 19, 8, 9, 19, 15, 18}, {10, 5, 8, 17, 15, 18, 11, 0, 16, 15},
            {42, 61, 40, 62, 80, 62, 22, 42, 82, 42}, {13, 1, 8, 16, 8, 1, 0, 13, 17, 3}, {22, 2, 42, 61, 40, 1, 42, 2, 42, 22},
            {82, 81, 80, 61, 82, 82, 62, 81, 61, 20}, {10, 8, 17, 16, 2, 18, 8, 10, 5, 10}, {6, 63, 26, 77, 95, 22, 63, 83, 100, 25}};
        int[] most = {1, 5, 2, 2, 1, 2, 3, 1, 3, 3, 4, 4, 3, 3, 2, 4, 4, 5};
        int[] sets = {256, 309, 9, 144, 1, 129, 448, 2, 832, 548, 150, 312, 280, 265, 12, 51, 45, 410};
        for (int i = 0; i < odds.length; i++) {
            PierTooFar x = new PierTooFar();
            for (int part = 0; part < 10; part++) {
                x.odds(part, odds[i][part]);
            }
            Edges.is("strength(" + most[i] + ", 0) of " + java.util.Arrays.toString(odds[i]), x.strength(most[i], 0), sets[i]);
        }
    }

    private static void strengthMillionth() {
        Edges.holds("Terms 4", "that chance of a million (downwards, part by part from a million).");
        PierTooFar x = new PierTooFar();
        x.odds(0, 15);
        x.odds(3, 33);
        x.odds(4, 33);
        x.odds(9, 1);
        Edges.is("strength(0, 1)", x.strength(0, 1), 377749);
        Edges.is("strength(1, 1)", x.strength(1, 1), 473596);
        x = new PierTooFar();
        for (int part = 0; part < 10; part++) {
            x.odds(part, 77);
        }
        int due = 1000000;
        for (int part = 0; part < 10; part++) {
            due = due * 23 / 100;
        }
        Edges.is("strength(0, 1): downwards each time, 0 in the end", x.strength(0, 1), due);
        for (int part = 0; part < 10; part++) {
            x.odds(part, 1);
        }
        Edges.is("strength(0, 1): 99 of 100 ten times, at once 904382", x.strength(0, 1), 904380);
        for (int part = 0; part < 10; part++) {
            x.odds(part, 57);
        }
        Edges.is("strength(0, 1): 43 of 100 ten times, at once 216", x.strength(0, 1), 215);
    }

    private static void strengthRefused() {
        Edges.holds("Promise 34", "STRENGTH what 0 the set, 1 of a million. NONE if n can't be, or another what.");
        Edges.answers("strength(v, 0)", 0, 5, v -> new PierTooFar().strength(v, 0), v -> 0);
        Edges.answers("strength(v, 1)", 0, 5, v -> new PierTooFar().strength(v, 1), v -> 1000000);
        Edges.is("strength(-1, 0)", new PierTooFar().strength(-1, 0), -1);
        Edges.is("strength(6, 0)", new PierTooFar().strength(6, 0), -1);
        for (int what : Edges.others(-1, 2)) {
            Edges.is("strength(1, " + what + ")", new PierTooFar().strength(1, what), -1);
        }
    }

    private static void sleepsBeds() {
        Edges.holds("Terms 4", "SLEEPS of m (1 .. 40): MILES of BEDS, below LONG and not BROKEN, on the way out from the shore:"
                + " the fewest nights");
        PierTooFar x = Edges.pier(30);
        Edges.tell(x, 2, "bed 19;bed 9;kiosk 14;lamp 29;bed 4;");
        Edges.is("sleeps(10): at 10 and at 20", x.sleeps(10), 2);
        Edges.is("sleeps(20): at 10, or at 20", x.sleeps(20), 1);
        x.act(0, 9);
        Edges.is("sleeps(10), MILE 9 being BROKEN", x.sleeps(10), -1);
        Edges.is("sleeps(15): at 5 and at 20", x.sleeps(15), 2);
        x.act(1, 9);
        Edges.is("sleeps(10), MILE 9 being mended", x.sleeps(10), 2);
        x.act(0, 12);
        Edges.is("sleeps(10): no bed stands at MILE 12", x.sleeps(10), 2);
        x.set(1, 0, 19);
        Edges.is("sleeps(9) by LONG 19: at 5 and at 10", x.sleeps(9), 2);
        x.set(1, 0, 9);
        Edges.is("sleeps(5) by LONG 9: at 5", x.sleeps(5), 1);
        Edges.is("sleeps(4) by LONG 9", x.sleeps(4), -1);
    }

    private static void sleepsNights() {
        Edges.holds("Terms 4", "(beds slept in, each at m MILES at most from the one ahead or the shore, MILE b being b and 1"
                + " from the shore) to come within m MILES of LONG; NONE, if it can't be.");
        PierTooFar x = Edges.pier(40);
        Edges.is("sleeps(40): LONG is within", x.sleeps(40), 0);
        Edges.is("sleeps(39): no bed", x.sleeps(39), -1);
        Edges.tell(x, 2, "bed 19;");
        Edges.is("sleeps(20): MILE 19 is 20 from the shore and from LONG 40", x.sleeps(20), 1);
        Edges.is("sleeps(19): it is not within 19 of the shore", x.sleeps(19), -1);
        x.set(1, 0, 41);
        Edges.is("sleeps(20): LONG 41 is 21 away", x.sleeps(20), -1);
        Edges.is("sleeps(21)", x.sleeps(21), 1);
        x.set(1, 0, 200);
        Edges.tell(x, 2, "bed 39;bed 79;bed 119;bed 159;");
        Edges.is("sleeps(40): four nights to LONG 200", x.sleeps(40), 4);
        x.set(1, 0, 160);
        Edges.is("sleeps(40): three nights to LONG 160", x.sleeps(40), 3);
        x.set(1, 0, 161);
        Edges.is("sleeps(40): four nights to LONG 161", x.sleeps(40), 4);
        Edges.is("sleeps(39)", x.sleeps(39), -1);
        Edges.tell(x, 2, "bed 0;bed 1;bed 2;bed 3;");
        x.set(1, 0, 5);
        Edges.is("sleeps(1): each MILE a night", x.sleeps(1), 4);
        Edges.is("sleeps(2): at 2 and 4, not each", x.sleeps(2), 2);
        x.act(0, 1);
        Edges.is("sleeps(1): a gap of two", x.sleeps(1), -1);
        Edges.is("sleeps(2): at 1 and 3", x.sleeps(2), 2);
    }

    private static void sleepsRefused() {
        Edges.holds("Promise 35", "SLEEPS; NONE if m can't be, too. (LONG within m: 0.)");
        Edges.answers("sleeps(v)", 1, 40, v -> new PierTooFar().sleeps(v), v -> 0);
        for (int m : new int[] {1, 2, 39, 40}) {
            Edges.is("sleeps(" + m + ") by LONG " + m, Edges.pier(m).sleeps(m), 0);
            Edges.is("sleeps(" + m + ") by LONG " + (m + 1), Edges.pier(m + 1).sleeps(m), -1);
        }
    }

    private static void meetsDays() {
        Edges.holds("Terms 4", "MEETS of WALKERS a, b: the first DAY 0 .. 30 from now (in thought, by SETTING and as days go;"
                + " 0: the DAY that comes next) at the end of which both are at one MILE");
        for (int on : new int[] {0, 1, 29, 30, 31}) {
            PierTooFar x = Edges.walkers(2, 1, 9, 60);
            Edges.tell(x, 3, "on " + on + " 0;on " + on + " 1;");
            Edges.is("meets(0, 1, 0), both setting off on DAY " + on, x.meets(0, 1, 0), on <= 30 ? on : -1);
            x.days(1);
            Edges.is("meets(0, 1, 0) a DAY later", x.meets(0, 1, 0), Math.max(0, on - 1));
        }
        PierTooFar x = Edges.walkers(2, 2, 10, 60);
        x.set(2, 1, 3);
        Edges.tell(x, 3, "on 0 0;on 0 1;");
        Edges.is("meets(0, 1, 0): 2 3, 4 6, 6 9, 8 12, 6 9, 4 6, 2 3, 0 0", x.meets(0, 1, 0), 7);
        Edges.is("meets(0, 1, 1)", x.meets(0, 1, 1), 0);
        x.days(7);
        Edges.is("meets(0, 1, 0) on the DAY that comes next", x.meets(0, 1, 0), 0);
        x.days(1);
        Edges.is("meets(0, 1, 0): ashore is no MILE", x.meets(0, 1, 0), -1);
    }

    private static void meetsMile() {
        Edges.holds("Terms 4", "that MILE.");
        PierTooFar x = Edges.walkers(2, 2, 10, 60);
        Edges.tell(x, 3, "on 0 0;on 4 1;");
        Edges.is("meets(0, 1, 0): 8, 6, 4 against 2, 4", x.meets(0, 1, 0), 5);
        Edges.is("meets(0, 1, 1)", x.meets(0, 1, 1), 4);
        Edges.is("meets(1, 0, 1)", x.meets(1, 0, 1), 4);
        x.act(0, 3);
        Edges.is("meets(0, 1, 1), MILE 3 being BROKEN", x.meets(0, 1, 1), -1);
        PierTooFar y = Edges.walkers(2, 9, 30, 200);
        Edges.tell(y, 0, "walks 20;");
        y.act(2, 0);
        y.act(2, 1);
        Edges.is("meets(0, 1, 1): the first one", y.meets(0, 1, 1), 20);
        y.days(9);
        Edges.is("meets(0, 1, 1): the last MILE", y.meets(0, 1, 1), 199);
    }

    private static void meetsRefused() {
        Edges.holds("Promise 36", "MEETS what 0 the DAY (0: behind one), 1 the MILE."
                + " NONE if never, alike, there is none such, or another what.");
        PierTooFar x = Edges.walkers(3, 2, 20, 60);
        Edges.is("meets(0, 1, 0): never", x.meets(0, 1, 0), -1);
        Edges.is("meets(0, 1, 1): never", x.meets(0, 1, 1), -1);
        x.act(2, 0);
        x.act(2, 1);
        Edges.is("meets(0, 1, 0)", x.meets(0, 1, 0), 0);
        Edges.is("meets(0, 1, 1)", x.meets(0, 1, 1), 2);
        Edges.is("meets(0, 2, 0): one is ashore", x.meets(0, 2, 0), -1);
        Edges.is("meets(0, 0, 0): alike", x.meets(0, 0, 0), -1);
        Edges.is("meets(1, 1, 1): alike", x.meets(1, 1, 1), -1);
        for (int w : new int[] {LEAST, -2, -1, 3, 4, 11, 12, MOST}) {
            Edges.is("meets(" + w + ", 0, 0)", x.meets(w, 0, 0), -1);
            Edges.is("meets(0, " + w + ", 1)", x.meets(0, w, 1), -1);
            Edges.is("meets(" + w + ", " + w + ", 0)", x.meets(w, w, 0), -1);
        }
        for (int what : Edges.others(-1, 2)) {
            Edges.is("meets(0, 1, " + what + ")", x.meets(0, 1, what), -1);
        }
        x = Edges.walkers(12, 2, 20, 60);
        x.act(2, 10);
        x.act(2, 11);
        Edges.is("meets(10, 11, 1)", x.meets(10, 11, 1), 2);
        Edges.is("meets(11, 12, 1)", x.meets(11, 12, 1), -1);
    }

    private static void planks(int[] heaps, int who, int many) {
        PierTooFar x = new PierTooFar();
        for (int heap : heaps) {
            x.walker(heap, 1, 0);
        }
        String of = " of " + java.util.Arrays.toString(heaps);
        Edges.is("game(0)" + of, x.game(0), who);
        Edges.is("game(1)" + of, x.game(1), many);
    }

    private static void planksTaken() {
        Edges.holds("Terms 4", "PLANKS: a game: from PACE of WALKERS two by turns take planks, 1 or a third of what is left of one's"
                + " (upwards); who takes the last one of all wins");
        int[] many = {1, -1, 1, 2, -1, 1, -1, 1, -1};
        for (int heap = 1; heap <= 9; heap++) {
            planks(new int[] {heap}, many[heap - 1] == -1 ? -1 : 0, many[heap - 1]);
        }
        planks(new int[] {4, 2}, 0, 2);
        planks(new int[] {8, 4}, 1, 1);
        planks(new int[] {4, 1}, 0, 1);
        planks(new int[] {5, 1}, 0, 2);
        planks(new int[] {6, 4}, 0, 2);
        planks(new int[] {7, 4}, 0, 3);
    }

    private static void planksBegin() {
        Edges.holds("Terms 4", "the WALKER (of several the least), how many (the fewest) who begins well takes.");
        planks(new int[] {1, 1, 1}, 0, 1);
        planks(new int[] {2, 9, 3}, 0, 1);
        planks(new int[] {2, 9, 4}, 2, 2);
        planks(new int[] {9, 1}, 0, 1);
        planks(new int[] {4, 4, 6}, 2, 1);
        planks(new int[] {4, 4, 4}, 0, 2);
        planks(new int[] {2, 2, 2, 2, 2, 2, 2, 2, 2, 2, 2, 4}, 11, 2);
        planks(new int[] {2, 2, 2, 2, 2, 2, 2, 2, 2, 2, 2, 1}, 0, 1);
        planks(new int[] {2, 4, 1}, 1, 1);
        planks(new int[] {6}, 0, 1);
    }

    private static void planksRefused() {
        Edges.holds("Promise 37", "PLANKS what 0 the WALKER, 1 how many. NONE if who begins loses, or for another what.");
        planks(new int[] {}, -1, -1);
        planks(new int[] {2}, -1, -1);
        planks(new int[] {1, 1}, -1, -1);
        planks(new int[] {9, 7, 5, 2}, -1, -1);
        PierTooFar x = new PierTooFar();
        x.walker(4, 1, 0);
        Edges.is("game(0)", x.game(0), 0);
        Edges.is("game(1)", x.game(1), 2);
        for (int what : Edges.others(-1, 2)) {
            Edges.is("game(" + what + ")", x.game(what), -1);
        }
    }
}
