/** Promises 13 to 15, the head and the first row of the Terms, sentence by sentence: MILES, WALKERS, what is asked. */
final class EdgesOfPier {
    private static final int LEAST = Edges.LEAST;
    private static final int MOST = Edges.MOST;

    private EdgesOfPier() {
    }

    static void run() {
        quotients();
        stateAtFirst();
        stateWraps();
        drawsWithoutSign();
        miles();
        longBounds();
        broken();
        kiosksAndBeds();
        beyondLong();
        walkers();
        walkerBounds();
        atFirst();
        outOrBack();
        leftAtFirst();
        shamesOfAYear();
        wind();
        yearAndDay();
        strong();
        ofAsked();
        ofRefused();
        mileAsked();
        mileRefused();
        shameAsked();
        shameRefused();
    }

    private static void quotients() {
        Edges.holds("Terms 0", "Quotients go downwards.");
        PierTooFar x = Edges.walkers(1, 1, 3, 40);
        Edges.is("shame(0, 8): 8 by 9 is 0", x.shame(0, 8), 1);
        Edges.is("shame(0, 9)", x.shame(0, 9), 2);
        Edges.is("shame(0, 17)", x.shame(0, 17), 2);
        x.act(2, 0);
        x.days(1);
        Edges.is("of(0, 4): half of 3 is 1, LEFT is 2", x.of(0, 4), 1);
        x.odds(0, 1);
        Edges.is("strength(1, 1): half of 1 is 0", x.strength(1, 1), 1000000);
        x.odds(0, 99);
        Edges.is("strength(1, 1): half of 99 is 49", x.strength(1, 1), 510000);
    }

    private static void stateAtFirst() {
        Edges.holds("Terms 0", "STATE of draws (an int, 0 at first)");
        PierTooFar x = new PierTooFar();
        Edges.is("look(10)", x.look(10), 0);
        Edges.is("state(5)", x.state(5), 0);
        for (int v : new int[] {LEAST, LEAST + 1, -1, 0, MOST}) {
            x.state(v);
            Edges.is("look(10): an int as told", x.look(10), v);
        }
    }

    private static void stateWraps() {
        Edges.holds("Terms 0", "a DRAW of m: it becomes 1664525 times itself + 1013904223 (ints, which wrap)");
        int[] before = {0, 1, -1, MOST, LEAST, 1013904223, 2000000000, -2000000000};
        for (int state : before) {
            PierTooFar x = Edges.pier(1);
            Edges.tell(x, 0, "storm 1;");
            x.state(state);
            x.years(1);
            long product = 1664525L * state + 1013904223L;
            int due = (int) (product & 0xFFFFFFFFL);
            int drawn = (int) ((product & 0xFFFFFFFFL) / 256 % 1000);
            Edges.is("look(10) behind STATE " + state, x.look(10), drawn < 1 ? x.look(10) : due);
        }
    }

    private static void drawsWithoutSign() {
        Edges.holds("Terms 0", "then it is its highest 24 bits (without sign) modulo m.");
        int below = 0;
        int signed = 0;
        for (int i = 0; i < 200; i++) {
            int state = i * 0x9E3779B1;
            PierTooFar x = Edges.pier(20);
            Edges.tell(x, 0, "storm 500;");
            x.state(state);
            Due.Draws draws = new Due.Draws(state);
            boolean due = draws.draw(1000) < 500;
            signed += draws.state < 0 ? 1 : 0;
            int mile = due ? draws.draw(20) : -1;
            below += due ? 1 : 0;
            Edges.is("years(1) from STATE " + state, x.years(1), due ? 1 : 0);
            Edges.is("look(10) from STATE " + state, x.look(10), draws.state);
            Edges.is("the MILE from STATE " + state, due ? x.mile(mile, 0) : x.look(2), due ? 1 : 0);
        }
        Edges.yes("below and not: " + below, below > 50 && below < 150);
        Edges.yes("STATES below 0: " + signed, signed > 50 && signed < 150);
    }

    private static void miles() {
        Edges.holds("Terms 1", "MILES 0 .. 199 of the pier, from the shore on");
        Edges.answers("mile(v, 0)", 0, 199, v -> new PierTooFar().mile(v, 0), v -> 0);
        Edges.range("act(0, v)", 0, 199, v -> Edges.pier(200).act(0, v));
        PierTooFar x = Edges.walkers(1, 3, 30, 200);
        x.act(2, 0);
        x.days(2);
        Edges.is("of(0, 3): from MILE 0 on, six MILES out", x.of(0, 3), 6);
    }

    private static void longBounds() {
        Edges.holds("Terms 1", "LONG 0 .. 200 (how many there are, 0 at first).");
        Edges.is("look(1) at first", new PierTooFar().look(1), 0);
        Edges.range("set(1, 0, v)", 0, 200, v -> new PierTooFar().set(1, 0, v));
        for (int length : new int[] {1, 2, 199, 200}) {
            PierTooFar x = Edges.pier(length);
            Edges.is("look(1)", x.look(1), length);
            Edges.yes("act(0, " + (length - 1) + ")", x.act(0, length - 1));
            Edges.no("act(0, " + length + ")", x.act(0, length));
        }
        PierTooFar x = Edges.pier(199);
        Edges.is("owns(0, 99)", x.owns(0, 99), 1);
        Edges.is("look(1)", x.look(1), 200);
    }

    private static void broken() {
        Edges.holds("Terms 1", "BROKEN (a set of MILES; empty at first; may be told by MILE).");
        PierTooFar x = Edges.pier(200);
        Edges.is("look(2) at first", x.look(2), 0);
        for (int m = 0; m < 200; m++) {
            x.act(0, m);
        }
        Edges.is("look(2), each MILE", x.look(2), 200);
        Edges.no("act(0, 0): a set, so not twice", x.act(0, 0));
        for (int m = 0; m < 200; m += 2) {
            x.act(1, m);
        }
        Edges.is("look(2), each other MILE", x.look(2), 100);
        Edges.is("mile(198, 0)", x.mile(198, 0), 0);
        Edges.is("mile(199, 0)", x.mile(199, 0), 1);
    }

    private static String places(String sort, int n, int first) {
        StringBuilder text = new StringBuilder();
        for (int i = 0; i < n; i++) {
            text.append(sort).append(' ').append(first + 11 * i).append(';');
        }
        return text.toString();
    }

    private static void kiosksAndBeds() {
        Edges.holds("Terms 1", "KIOSKS, BEDS (sets of MILES, up to 16 each, as told");
        PierTooFar x = Edges.pier(200);
        Edges.fine(x, 2, places("kiosk", 16, 30), 16);
        Edges.is("next(199): the 16th", x.next(199), 195);
        Edges.is("next(0): the first", x.next(0), 30);
        Edges.fine(x, 2, places("bed", 16, 10), 16);
        Edges.is("next(199): no kiosk is told now", x.next(199), -1);
        Edges.is("sleeps(14): by the 16th bed at 176, with 11, 22, .. ahead", x.sleeps(24), 8);
        Edges.is("sleeps(11): sixteen nights", x.sleeps(11), -1);
        x.set(1, 0, 187);
        Edges.is("sleeps(11): by all sixteen beds", x.sleeps(11), 16);
        Edges.is("text(2) of 17 kiosks", Edges.tell(x, 2, places("kiosk", 17, 10)), -1);
    }

    private static void beyondLong() {
        Edges.holds("Terms 1", "a MILE beyond LONG does no good).");
        PierTooFar x = Edges.pier(49);
        Edges.tell(x, 2, "kiosk 49;bed 49;");
        x.want(0, 49);
        Edges.is("next(49) by LONG 49", x.next(49), -1);
        Edges.is("serves(1, 0) by LONG 49", x.serves(1, 0), 0);
        Edges.is("mile(49, 1): it stands there as told", x.mile(49, 1), 1);
        x.set(1, 0, 50);
        Edges.is("next(49) by LONG 50", x.next(49), 49);
        Edges.is("serves(1, 0) by LONG 50", x.serves(1, 0), 1);
        x = Edges.pier(78);
        Edges.tell(x, 2, "bed 38;bed 77;bed 78;");
        Edges.is("sleeps(39), by 39, within 39 of 78", x.sleeps(39), 1);
        x.set(1, 0, 79);
        Edges.is("sleeps(39), by 39 and 78", x.sleeps(39), 2);
        x.set(1, 0, 39);
        Edges.is("sleeps(38): MILE 38 is 39 away", x.sleeps(38), -1);
        Edges.tell(x, 2, "bed 37;");
        x.set(1, 0, 39);
        Edges.is("sleeps(38): by MILE 37", x.sleeps(38), 1);
        x.set(1, 0, 37);
        Edges.is("sleeps(36): MILE 37 is beyond LONG 37", x.sleeps(36), -1);
    }

    private static void walkers() {
        Edges.holds("Terms 1", "WALKERS 0 .. 11 as they come");
        PierTooFar x = new PierTooFar();
        for (int w = 0; w < 12; w++) {
            Edges.is("walker(1, " + (w + 1) + ", 0)", x.walker(1, w + 1, 0), w);
        }
        Edges.is("the 13th", x.walker(1, 1, 0), -1);
        for (int w = 0; w < 12; w++) {
            Edges.is("of(" + w + ", 1)", x.of(w, 1), w + 1);
        }
    }

    private static void walkerBounds() {
        Edges.holds("Terms 1", "PACE 1 .. 9, DAYS 1 .. 30 (how many he has), NERVE 0 .. 9");
        Edges.answers("walker(v, 5, 5)", 1, 9, v -> new PierTooFar().walker(v, 5, 5), v -> 0);
        Edges.answers("walker(5, v, 5)", 1, 30, v -> new PierTooFar().walker(5, v, 5), v -> 0);
        Edges.answers("walker(5, 5, v)", 0, 9, v -> new PierTooFar().walker(5, 5, v), v -> 0);
        for (int days : new int[] {1, 2, 29, 30}) {
            PierTooFar x = Edges.walkers(1, 1, days, 200);
            Edges.tell(x, 0, "walks 0;");
            x.act(2, 0);
            Edges.is("of(0, 5)", x.of(0, 5), days);
            if (days > 1) {
                x.days(days - 1);
                Edges.is("look(6) ahead of his last day", x.look(6), 0);
            }
            x.days(1);
            Edges.is("look(6) behind all his days", x.look(6), 1);
        }
    }

    private static void atFirst() {
        Edges.holds("Terms 1", "AT a MILE or none (the shore: none, at first)");
        PierTooFar x = Edges.walkers(12, 9, 30, 200);
        for (int w = 0; w < 12; w++) {
            Edges.is("of(" + w + ", 3)", x.of(w, 3), -1);
        }
        x.act(2, 11);
        Edges.is("of(11, 3): MILE 0 is not none", x.of(11, 3), 0);
        Edges.is("of(10, 3)", x.of(10, 3), -1);
        Edges.tell(x, 0, "walks 20;");
        x.days(10);
        Edges.is("of(11, 3): the last MILE", x.of(11, 3), 199);
    }

    private static void outOrBack() {
        Edges.holds("Terms 1", "OUT 0, 1 (1: he goes out, 0: back or ashore; 0 at first)");
        PierTooFar x = Edges.walkers(1, 2, 4, 40);
        Edges.is("of(0, 4) at first", x.of(0, 4), 0);
        x.act(2, 0);
        Edges.is("of(0, 4) out", x.of(0, 4), 1);
        x.days(1);
        Edges.is("of(0, 4) out", x.of(0, 4), 1);
        x.days(1);
        Edges.is("of(0, 4) back", x.of(0, 4), 0);
        x.days(1);
        Edges.is("of(0, 4) ashore", x.of(0, 4), 0);
        x = Edges.walkers(1, 2, 4, 40);
        Edges.tell(x, 0, "walks 0;");
        x.act(2, 0);
        x.days(4);
        Edges.walker(x, 0, -1, 0, 0);
    }

    private static void leftAtFirst() {
        Edges.holds("Terms 1", "LEFT days (0 at first).");
        PierTooFar x = Edges.walkers(2, 2, 30, 40);
        Edges.is("of(0, 5) at first", x.of(0, 5), 0);
        x.act(2, 0);
        Edges.is("of(0, 5)", x.of(0, 5), 30);
        Edges.is("of(1, 5)", x.of(1, 5), 0);
        x.days(1);
        Edges.is("of(0, 5)", x.of(0, 5), 29);
    }

    private static void shamesOfAYear() {
        Edges.holds("Terms 1", "SHAMES of a YEAR: what the town did.");
        PierTooFar x = new PierTooFar();
        Edges.tell(x, 1, "in 1 deed 3 bad 0;in 0 deed 2 bad 99;in 1 deed 4 bad 9;");
        x.years(1);
        Edges.is("look(1) behind YEAR 0", x.look(1), 12);
        x.years(1);
        Edges.is("look(1) behind YEAR 1", x.look(1), 15);
        x.years(1);
        Edges.is("look(1) behind YEAR 2", x.look(1), 15);
    }

    private static void wind() {
        Edges.holds("Terms 1", "WIND 0 .. 9 (0 at first)");
        Edges.is("look(3)", new PierTooFar().look(3), 0);
        Edges.range("set(0, 0, v)", 0, 9, v -> {
            PierTooFar x = new PierTooFar();
            return x.set(0, 0, v) && x.look(3) == v && x.mile(0, 4) == 10 * v;
        });
    }

    private static void yearAndDay() {
        Edges.holds("Terms 1", "YEAR 0 .. 9999, DAY 0 .. 99999 (0 each at first)");
        PierTooFar x = new PierTooFar();
        Edges.is("look(4)", x.look(4), 0);
        Edges.is("look(5)", x.look(5), 0);
        for (int i = 0; i < 166; i++) {
            x.years(60);
        }
        Edges.is("years(40), to 10000", x.years(40), -1);
        Edges.is("years(39), to 9999", x.years(39), 0);
        Edges.is("look(4)", x.look(4), 9999);
        for (int i = 0; i < 300; i++) {
            x.days(60);
        }
        Edges.is("look(5): DAYS go on", x.look(5), 18000);
    }

    private static void strong() {
        Edges.holds("Terms 1", "STRONG (a set of ten parts of 20 MILES; empty at first).");
        Edges.is("look(8)", new PierTooFar().look(8), 0);
        for (int part = 0; part < 10; part++) {
            PierTooFar x = new PierTooFar();
            Edges.tell(x, 0, "storm strong;");
            x.set(5, part, 1);
            Edges.is("look(8)", x.look(8), 1 << part);
            for (int m = 0; m < 200; m++) {
                Edges.is("mile(" + m + ", 4)", x.mile(m, 4), m >= 20 * part && m <= 20 * part + 19 ? 1 : 0);
            }
        }
        Edges.no("set(5, 10, 1)", new PierTooFar().set(5, 10, 1));
    }

    private static void ofAsked() {
        Edges.holds("Promise 13", "Of a WALKER what 0 PACE, 1 DAYS, 2 NERVE, 3 AT (NONE), 4 OUT, 5 LEFT, 6 walks.");
        PierTooFar x = new PierTooFar();
        x.walker(9, 30, 9);
        x.walker(1, 20, 0);
        x.set(1, 0, 40);
        x.act(2, 1);
        x.days(3);
        Edges.tell(x, 0, "walks left;");
        int[] ashore = {9, 30, 9, -1, 0, 0, 0};
        int[] out = {1, 20, 0, 3, 1, 17, 17};
        for (int what = 0; what <= 6; what++) {
            Edges.is("of(0, " + what + ")", x.of(0, what), ashore[what]);
            Edges.is("of(1, " + what + ")", x.of(1, what), out[what]);
        }
    }

    private static void ofRefused() {
        Edges.holds("Promise 13", "NONE - 1 if there is none such, or another what.");
        for (int n : new int[] {0, 1, 5, 12}) {
            PierTooFar x = Edges.walkers(n, 3, 9, 20);
            for (int w : new int[] {LEAST, -2, -1, n, n + 1, 12, 13, MOST}) {
                for (int what = 0; what <= 6; what++) {
                    Edges.is("of(" + w + ", " + what + ") of " + n, x.of(w, what), -2);
                }
            }
            Edges.is("of(" + (n - 1) + ", 0), the last", n == 0 ? 3 : x.of(n - 1, 0), 3);
        }
        PierTooFar x = Edges.walkers(2, 3, 9, 20);
        for (int what : Edges.others(-1, 7)) {
            Edges.is("of(1, " + what + ")", x.of(1, what), -2);
        }
    }

    private static void mileAsked() {
        Edges.holds("Promise 14", "Of a MILE what 0 BROKEN, 1 a kiosk, 2 a bed, 3 a lamp stands there (1, 0), 4 storm of its part.");
        PierTooFar x = Edges.pier(200);
        Edges.tell(x, 0, "storm mile+7;");
        Edges.tell(x, 2, "kiosk 0;bed 1;lamp 2;kiosk 199;bed 199;lamp 199;");
        x.act(0, 3);
        x.act(0, 199);
        int[][] due = {{0, 1, 0, 0, 7}, {0, 0, 1, 0, 7}, {0, 0, 0, 1, 7}, {1, 0, 0, 0, 7}, {1, 1, 1, 1, 187}, {0, 0, 0, 0, 7}, {0, 0, 0, 0, 27}};
        int[] miles = {0, 1, 2, 3, 199, 19, 20};
        for (int i = 0; i < miles.length; i++) {
            for (int what = 0; what <= 4; what++) {
                Edges.is("mile(" + miles[i] + ", " + what + ")", x.mile(miles[i], what), due[i][what]);
            }
        }
        x.set(1, 0, 0);
        int[] beyond = {0, 1, 1, 1, 187};
        for (int what = 0; what <= 4; what++) {
            Edges.is("mile(199, " + what + ") by LONG 0", x.mile(199, what), beyond[what]);
        }
    }

    private static void mileRefused() {
        Edges.holds("Promise 14", "NONE if there is none such, or another what.");
        PierTooFar x = Edges.pier(200);
        for (int m : new int[] {LEAST, -2, -1, 200, 201, 219, MOST}) {
            for (int what = 0; what <= 4; what++) {
                Edges.is("mile(" + m + ", " + what + ")", x.mile(m, what), -1);
            }
        }
        for (int what : Edges.others(-1, 5)) {
            Edges.is("mile(0, " + what + ")", x.mile(0, what), -1);
            Edges.is("mile(199, " + what + ")", x.mile(199, what), -1);
        }
    }

    private static void shameAsked() {
        Edges.holds("Promise 15", "shame of a DEED as bad as told");
        PierTooFar x = Edges.pier(199);
        for (int bad = 0; bad <= 99; bad++) {
            Edges.is("shame(0, " + bad + ")", x.shame(0, bad), bad / 9 + 1);
        }
        Edges.tell(x, 0, "shame deed*3+bad/50;");
        for (int deed = 0; deed <= 5; deed++) {
            Edges.is("shame(" + deed + ", 99)", x.shame(deed, 99), deed * 3 + 1);
        }
        Edges.is("look(1): nothing is built", x.look(1), 199);
        Edges.is("look(9)", x.look(9), 0);
        x.set(1, 0, 200);
        Edges.is("shame(5, 49): not held by LONG", x.shame(5, 49), 15);
    }

    private static void shameRefused() {
        Edges.holds("Promise 15", "NONE if one can't be.");
        Edges.answers("shame(v, 0)", 0, 5, v -> new PierTooFar().shame(v, 0), v -> 1);
        Edges.answers("shame(0, v)", 0, 99, v -> new PierTooFar().shame(0, v), v -> v / 9 + 1);
        Edges.range("shame(5, v) or NONE", 0, 99, v -> new PierTooFar().shame(5, v) != -1);
    }
}
