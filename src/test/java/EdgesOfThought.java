import java.util.function.Consumer;

/** Promises 17 to 26 and their Terms, sentence by sentence: GOES, FAR, NEXT, SERVES, BOATS, TALK, DID. */
final class EdgesOfThought {
    private static final int LEAST = Edges.LEAST;
    private static final int MOST = Edges.MOST;

    private EdgesOfThought() {
    }

    static void run() {
        nothingStays();
        noDraws();
        goesBounds();
        goesYears();
        goesRefused();
        farWalk();
        farDays();
        farFurthest();
        farRefused();
        nextKiosk();
        nextLeast();
        nextRefused();
        wantTold();
        wantRefused();
        servesDistance();
        servesSites();
        servesKiosks();
        servesBest();
        servesRefused();
        boatsBeyond();
        boatsCrossings();
        boatsRefused();
        talkTold();
        talkRefused();
        saidBehind();
        saidBecomes();
        apart();
        saidRefused();
        didTold();
        didRefused();
        fitsDeeds();
        fitsWays();
        fitsAsk();
        fitsRefused();
    }

    private static void nothingStays() {
        Edges.holds("Terms 4", "IN THOUGHT (nothing of it stays;");
        Edges.stays("goes()", Edges::busy, x -> {
            x.goes(60, 0);
            x.goes(1, 1);
        });
        Edges.stays("far()", Edges::busy, x -> {
            x.far(0, 0);
            x.far(1, 1);
        });
        Edges.stays("meets()", Edges::busy, x -> {
            x.meets(0, 1, 0);
            x.meets(1, 0, 1);
        });
        Edges.stays("what else is thought", Edges::busy, x -> {
            x.next(3);
            x.boats(2);
            x.sleeps(20);
            x.game(0);
            x.shame(1, 1);
            Due.thought(x);
        });
    }

    private static void noDraws() {
        Edges.holds("Terms 4",
                "no DRAWS: it breaks, if storm is 500 at least, the first MILE of the part, if it is not BROKEN yet).");
        for (int state : new int[] {0, 12345, -9}) {
            PierTooFar x = Edges.pier(61);
            x.state(state);
            Edges.tell(x, 0, "storm 499;");
            Edges.is("goes(1, 1) by storm 499", x.goes(1, 1), 0);
            Edges.tell(x, 0, "storm 500;");
            Edges.is("goes(1, 1) by storm 500", x.goes(1, 1), 4);
            Edges.is("goes(60, 1): the first MILES alone", x.goes(60, 1), 4);
            x.act(0, 0);
            x.act(0, 21);
            Edges.is("goes(1, 1): MILE 0 is BROKEN, MILE 20 not yet", x.goes(1, 1), 5);
            x.set(1, 0, 60);
            Edges.is("goes(1, 1): no part of MILE 60", x.goes(1, 1), 4);
            x.set(1, 0, 0);
            x.set(1, 0, 200);
            for (int part = 0; part < 10; part++) {
                Edges.tell(x, 0, "storm 500 when mile=" + 20 * part + ";storm 499;");
                x.act(0, 20 * part + 1);
                Edges.is("goes(1, 1): the first MILE of part " + part, x.goes(1, 1), 2);
                x.act(0, 20 * part);
                Edges.is("goes(1, 1): MILE " + 20 * part + " is BROKEN", x.goes(1, 1), 2);
                x.set(1, 0, 0);
                x.set(1, 0, 200);
            }
            Edges.is("look(10)", x.look(10), state);
        }
    }

    private static void goesBounds() {
        Edges.holds("Terms 4", "GOES for n (1 .. 60) YEARS: LONG then, how many MILES are BROKEN.");
        Edges.answers("goes(v, 0)", 1, 60, v -> Edges.pier(7).goes(v, 0), v -> 7);
        PierTooFar x = new PierTooFar();
        Edges.tell(x, 0, "shame 1;storm 500 when year=58 and mile=20;storm 0;");
        Edges.tell(x, 1, "in 0 deed 0 bad 0;in 58 deed 0 bad 0;in 59 deed 0 bad 0;in 60 deed 0 bad 0;");
        int[] years = {1, 2, 58, 59, 60};
        int[] due = {1, 1, 1, 2, 3};
        for (int i = 0; i < years.length; i++) {
            Edges.is("goes(" + years[i] + ", 0)", x.goes(years[i], 0), due[i]);
        }
        x.set(1, 0, 21);
        Edges.is("goes(58, 1)", x.goes(58, 1), 0);
        Edges.is("goes(59, 1)", x.goes(59, 1), 1);
        x.set(1, 0, 198);
        Edges.is("goes(60, 0): 200 at most", x.goes(60, 0), 200);
        x.years(1);
        Edges.is("goes(58, 0) from YEAR 1 on", x.goes(58, 0), 200);
        Edges.is("goes(57, 0) from YEAR 1 on", x.goes(57, 0), 199);
    }

    private static void goesYears() {
        Edges.holds("Promise 17", "GOES what 0 LONG, 1 how many BROKEN.");
        PierTooFar x = Edges.pier(90);
        x.act(0, 3);
        x.act(0, 89);
        Edges.is("goes(1, 0)", x.goes(1, 0), 90);
        Edges.is("goes(1, 1)", x.goes(1, 1), 2);
    }

    private static void goesRefused() {
        Edges.holds("Promise 17", "NONE if one can't be, or another what.");
        PierTooFar x = Edges.pier(90);
        for (int n : new int[] {LEAST, -60, -1, 0, 61, 62, MOST}) {
            Edges.is("goes(" + n + ", 0)", x.goes(n, 0), -1);
            Edges.is("goes(" + n + ", 1)", x.goes(n, 1), -1);
        }
        for (int what : Edges.others(-1, 2)) {
            Edges.is("goes(1, " + what + ")", x.goes(1, what), -1);
        }
    }

    private static void farWalk() {
        Edges.holds("Terms 4", "FAR of a WALKER: a walk from the shore by DAYS he has, on the pier as it is");
        int[] days = {1, 2, 3, 4, 5, 6, 29, 30};
        for (int d : days) {
            PierTooFar x = Edges.walkers(1, 1, d, 200);
            Edges.is("far(0, 0) by DAYS " + d, x.far(0, 0), d - d / 2 - 1);
            Edges.is("far(0, 1) by DAYS " + d, x.far(0, 1), 1);
        }
        PierTooFar x = Edges.walkers(1, 9, 30, 200);
        Edges.is("far(0, 0)", x.far(0, 0), 126);
        x.set(1, 0, 126);
        Edges.is("far(0, 0) by LONG 126", x.far(0, 0), 125);
        x.act(0, 60);
        Edges.is("far(0, 0), MILE 60 being BROKEN", x.far(0, 0), 59);
        x.act(1, 60);
        x.act(2, 0);
        x.days(4);
        x.act(0, 20);
        Edges.is("far(0, 0): from the shore, though he is at MILE 36", x.far(0, 0), 19);
        Edges.is("far(0, 1): he is home alive", x.far(0, 1), 1);
        Edges.walker(x, 0, 36, 1, 26);
    }

    private static void farDays() {
        Edges.holds("Terms 4", "each day as in (b) (LEFT, mile as then)");
        PierTooFar x = Edges.walkers(1, 1, 8, 200);
        Edges.tell(x, 0, "walks 9 when left=7 and mile=0;walks 5 when mile=9 and left=6;walks 3 when mile=14;walks 20;");
        Edges.is("far(0, 0): 9, 5, 3, then back", x.far(0, 0), 17);
        Edges.is("far(0, 1)", x.far(0, 1), 1);
        Edges.tell(x, 0, "walks 4 when left>4;walks 3;");
        Edges.is("far(0, 0): 12 by three days", x.far(0, 0), 12);
        Edges.is("far(0, 1): 12 back by three a day, the fifth day is the last one", x.far(0, 1), 1);
        Edges.tell(x, 0, "walks 5 when left>4;walks 3;");
        Edges.is("far(0, 0): 15 by three days", x.far(0, 0), 15);
        Edges.is("far(0, 1): 15 back and ashore by five of three", x.far(0, 1), 0);
        Edges.tell(x, 0, "walks 5 when left>4;walks 4 when left=0;walks 3;");
        Edges.is("far(0, 1): one more on the last day", x.far(0, 1), 1);
    }

    private static void farFurthest() {
        Edges.holds("Terms 4", "the furthest MILE at which he is at a day's end or between, and whether he is home alive (1, 0).");
        PierTooFar x = Edges.walkers(1, 3, 10, 200);
        Edges.is("far(0, 0)", x.far(0, 0), 12);
        x.set(1, 0, 13);
        Edges.is("far(0, 0) by LONG 13", x.far(0, 0), 12);
        x.set(1, 0, 12);
        Edges.is("far(0, 0) by LONG 12", x.far(0, 0), 11);
        x.set(1, 0, 1);
        Edges.is("far(0, 0) by LONG 1", x.far(0, 0), 0);
        Edges.is("far(0, 1) by LONG 1", x.far(0, 1), 1);
        Edges.tell(x, 0, "walks 0;");
        Edges.is("far(0, 0), never walking", x.far(0, 0), 0);
        Edges.is("far(0, 1), never walking", x.far(0, 1), 0);
        Edges.is("look(6): LOST in thought alone", x.look(6), 0);
        x = Edges.walkers(2, 1, 1, 40);
        x.years(3);
        x.days(5);
        x.state(7);
        Edges.is("far(0, 1) in YEAR 3", x.far(0, 1), 1);
        Edges.tell(x, 0, "walks 0 when nerve=9;");
        x.set(4, 1, 9);
        x.act(2, 1);
        x.days(1);
        Edges.is("look(6)", x.look(6), 1);
        Edges.is("far(0, 1): another one is lost", x.far(0, 1), 1);
        Edges.is("far(1, 1): he is lost", x.far(1, 1), 0);
        x.years(1);
        Edges.is("far(1, 1) in YEAR 4", x.far(1, 1), 0);
    }

    private static void farRefused() {
        Edges.holds("Promise 18", "FAR what 0 the MILE (NONE: none), 1 home. NONE if there is none such, or another what.");
        PierTooFar x = Edges.walkers(1, 3, 10, 0);
        Edges.is("far(0, 0) by LONG 0", x.far(0, 0), -1);
        Edges.is("far(0, 1) by LONG 0", x.far(0, 1), 0);
        x.set(1, 0, 9);
        x.act(0, 0);
        Edges.is("far(0, 0), MILE 0 being BROKEN", x.far(0, 0), -1);
        Edges.is("far(0, 1), MILE 0 being BROKEN", x.far(0, 1), 0);
        for (int n : new int[] {0, 1, 12}) {
            x = Edges.walkers(n, 3, 10, 90);
            for (int w : new int[] {LEAST, -1, n, n + 1, 12, MOST}) {
                Edges.is("far(" + w + ", 0) of " + n, x.far(w, 0), -1);
                Edges.is("far(" + w + ", 1) of " + n, x.far(w, 1), -1);
            }
        }
        Edges.is("far(11, 1)", x.far(11, 1), 1);
        for (int what : Edges.others(-1, 2)) {
            Edges.is("far(0, " + what + ")", x.far(0, what), -1);
        }
    }

    private static void nextKiosk() {
        Edges.holds("Terms 4", "NEXT kiosk (below LONG) to a MILE: the MILE of it nearest to it");
        PierTooFar x = Edges.pier(199);
        Edges.tell(x, 2, "kiosk 199;kiosk 0;bed 90;lamp 91;kiosk 198;kiosk 20;");
        Edges.is("next(199): 199 is not below LONG 199", x.next(199), 198);
        Edges.is("next(0)", x.next(0), 0);
        Edges.is("next(9)", x.next(9), 0);
        Edges.is("next(11)", x.next(11), 20);
        Edges.is("next(20)", x.next(20), 20);
        Edges.is("next(90): no bed, no lamp", x.next(90), 20);
        Edges.is("next(110)", x.next(110), 198);
        x.set(1, 0, 200);
        Edges.is("next(199)", x.next(199), 199);
        x.set(1, 0, 1);
        Edges.is("next(199) by LONG 1", x.next(199), 0);
    }

    private static void nextLeast() {
        Edges.holds("Terms 4", "(of several the least).");
        for (String text : new String[] {"kiosk 10;kiosk 20;", "kiosk 20;kiosk 10;"}) {
            PierTooFar x = Edges.pier(30);
            Edges.tell(x, 2, text);
            Edges.is("next(14)", x.next(14), 10);
            Edges.is("next(15)", x.next(15), 10);
            Edges.is("next(16)", x.next(16), 20);
        }
    }

    private static void nextRefused() {
        Edges.holds("Promise 19", "NEXT: the MILE of the kiosk; NONE if there is none, or no such MILE.");
        PierTooFar x = Edges.pier(20);
        Edges.is("next(0) without a kiosk", x.next(0), -1);
        Edges.tell(x, 2, "kiosk 20;");
        Edges.is("next(20): the kiosk is beyond LONG", x.next(20), -1);
        x.set(1, 0, 21);
        Edges.answers("next(v)", 0, 199, v -> x.next(v), v -> 20);
    }

    private static void wantTold() {
        Edges.holds("Promise 20", "What 0 a WANT, 1 a site more at MILE m (m NONE: none of these are then): how many");
        for (int what = 0; what <= 1; what++) {
            int most = what == 0 ? 20 : 10;
            PierTooFar x = new PierTooFar();
            Edges.is("want(" + what + ", -1) of none", x.want(what, -1), 0);
            for (int i = 1; i <= most; i++) {
                Edges.is("want(" + what + ", " + 9 * i + ")", x.want(what, 9 * i), i);
            }
            Edges.is("want(" + what + ", 5) beyond " + most, x.want(what, 5), -1);
            Edges.is("want(" + (1 - what) + ", 5)", x.want(1 - what, 5), 1);
            Edges.is("want(" + what + ", -1)", x.want(what, -1), 0);
            Edges.is("want(" + (1 - what) + ", 5): the others stay", x.want(1 - what, 5), 2);
            Edges.is("want(" + what + ", 5): none of these were", x.want(what, 5), 1);
        }
        int[] wants = {0, 199};
        for (int m : wants) {
            PierTooFar x = new PierTooFar();
            x.want(0, m);
            x.want(1, m);
            Edges.is("serves(1, 0) at " + m, x.serves(1, 0), 1);
        }
    }

    private static void wantRefused() {
        Edges.holds("Promise 20", "NONE if one can't be, there are twenty, ten, or another what.");
        for (int what = 0; what <= 1; what++) {
            int sort = what;
            Edges.answers("want(" + what + ", v)", -2, 0, 199, v -> new PierTooFar().want(sort, v), v -> 1);
        }
        for (int what : Edges.others(-1, 2)) {
            Edges.is("want(" + what + ", 3)", new PierTooFar().want(what, 3), -1);
            Edges.is("want(" + what + ", -1)", new PierTooFar().want(what, -1), -1);
        }
        Edges.stays("want() of what can't be", Edges::busy, x -> {
            x.want(0, 200);
            x.want(0, -2);
            x.want(1, 200);
            x.want(1, -2);
            x.want(2, 3);
            x.want(2, -1);
            x.want(-1, -1);
        });
        Edges.stays("the 21st want and the 11th site", EdgesOfThought::full, x -> {
            x.want(0, 199);
            x.want(1, 199);
        });
    }

    /** As many of each as are told for thought. */
    private static PierTooFar full() {
        PierTooFar x = new PierTooFar();
        for (int i = 0; i < 20; i++) {
            x.want(0, 9 * i);
        }
        for (int i = 0; i < 10; i++) {
            x.want(1, 12 * i);
            x.deed(10 + i, i);
        }
        for (int i = 0; i < 16; i++) {
            x.talk(i % 10, (i + 1) % 10, 10 * i);
        }
        for (int i = 0; i < 12; i++) {
            x.did(i, 3 * i + 3);
        }
        for (int i = 0; i < 8; i++) {
            x.price(50 - i);
        }
        return x;
    }

    private static void servesDistance() {
        Edges.holds("Terms 4", "SERVES: a set of MILES (told WANTS, up to 20 numbers 0 .. 199): of k (1 .. 6) kiosks at most to be put"
                + " at told sites (up to 10 MILES): the most WANTS with a kiosk at 10 MILES or nearer");
        for (int want : new int[] {89, 90, 91, 99, 100, 101, 109, 110, 111}) {
            PierTooFar x = Edges.pier(0);
            x.want(0, want);
            x.want(1, 100);
            Edges.is("serves(1, 0) at " + want + " by a site at 100", x.serves(1, 0), want >= 90 && want <= 110 ? 1 : 0);
            x = Edges.pier(200);
            x.want(0, want);
            Edges.tell(x, 2, "kiosk 100;");
            Edges.is("serves(1, 0) at " + want + " by a kiosk at 100", x.serves(1, 0), want >= 90 && want <= 110 ? 1 : 0);
        }
        PierTooFar x = new PierTooFar();
        for (int i = 0; i < 20; i++) {
            x.want(0, 9 * i);
        }
        for (int i = 0; i < 10; i++) {
            x.want(1, 5 + 19 * i);
        }
        Edges.is("serves(6, 0): by six of ten", x.serves(6, 0), most(6));
        Edges.is("serves(5, 0)", x.serves(5, 0), most(5));
        Edges.is("serves(1, 0)", x.serves(1, 0), most(1));
    }

    /** The most of twenty WANTS 9 MILES apart by so many of ten sites 19 MILES apart, each by itself or shared. */
    private static int most(int k) {
        int most = 0;
        for (int set = 0; set < 1024; set++) {
            int count = 0;
            for (int i = 0; i < 20 && Integer.bitCount(set) <= k; i++) {
                boolean near = false;
                for (int site = 0; site < 10; site++) {
                    near |= (set >> site) % 2 == 1 && Math.abs(9 * i - 5 - 19 * site) <= 10;
                }
                count += near ? 1 : 0;
            }
            most = Math.max(most, count);
        }
        return most;
    }

    private static void servesSites() {
        Edges.holds("Terms 4", "of k (1 .. 6) kiosks at most to be put at told sites (up to 10 MILES)");
        PierTooFar x = new PierTooFar();
        for (int i = 0; i < 10; i++) {
            x.want(1, 20 * i);
            x.want(0, 20 * i);
        }
        for (int k = 1; k <= 6; k++) {
            Edges.is("serves(" + k + ", 0)", x.serves(k, 0), k);
            Edges.is("serves(" + k + ", 1)", x.serves(k, 1), (1 << k) - 1);
        }
        x.want(0, -1);
        x.want(0, 181);
        Edges.is("serves(6, 0) by the tenth site alone", x.serves(6, 0), 1);
        Edges.is("serves(6, 1) by the tenth site alone", x.serves(6, 1), 512);
        x.want(1, -1);
        Edges.is("serves(6, 0) without sites", x.serves(6, 0), 0);
        Edges.is("serves(6, 1) without sites", x.serves(6, 1), 0);
    }

    private static void servesKiosks() {
        Edges.holds("Terms 4", "(sites with a kiosk of PLACES already count as one)");
        PierTooFar x = Edges.pier(60);
        Edges.tell(x, 2, "kiosk 30;kiosk 60;");
        x.want(0, 20);
        x.want(0, 40);
        x.want(0, 41);
        x.want(0, 70);
        Edges.is("serves(1, 0) without sites", x.serves(1, 0), 2);
        x.want(1, 30);
        Edges.is("serves(1, 0): 30 has one already", x.serves(1, 0), 2);
        Edges.is("serves(1, 1): so none is put there", x.serves(1, 1), 0);
        x.want(1, 60);
        Edges.is("serves(1, 0): the kiosk at 60 is beyond LONG, the site at 60 serves", x.serves(1, 0), 3);
        Edges.is("serves(1, 1)", x.serves(1, 1), 2);
        x.set(1, 0, 61);
        Edges.is("serves(1, 0)", x.serves(1, 0), 3);
        Edges.is("serves(1, 1)", x.serves(1, 1), 0);
        x.want(1, 51);
        Edges.is("serves(2, 0)", x.serves(2, 0), 4);
        Edges.is("serves(2, 1)", x.serves(2, 1), 4);
    }

    private static void servesBest() {
        Edges.holds("Terms 4", "how many; the set of sites (of several the fewest, then the least).");
        PierTooFar x = new PierTooFar();
        for (int site : new int[] {10, 30, 20, 21, 100, 100}) {
            x.want(1, site);
        }
        Edges.is("serves(6, 1) without WANTS: none", x.serves(6, 1), 0);
        x.want(0, 15);
        x.want(0, 28);
        Edges.is("serves(2, 0)", x.serves(2, 0), 2);
        Edges.is("serves(2, 1): one site, not two, the third, not the fourth", x.serves(2, 1), 4);
        x.want(0, 105);
        Edges.is("serves(1, 1)", x.serves(1, 1), 4);
        Edges.is("serves(2, 0)", x.serves(2, 0), 3);
        Edges.is("serves(2, 1): of two at 100 the fifth", x.serves(2, 1), 20);
        Edges.is("serves(6, 1): two, not six", x.serves(6, 1), 20);
        x.want(0, 5);
        Edges.is("serves(3, 0)", x.serves(3, 0), 4);
        Edges.is("serves(3, 1): three of several", x.serves(3, 1), 19);
    }

    private static void servesRefused() {
        Edges.holds("Promise 21",
                "SERVES what 0 how many, 1 the set of sites (bit i the i-th told). NONE if k can't be, or another what.");
        for (int i = 0; i < 10; i++) {
            PierTooFar x = new PierTooFar();
            x.want(0, 20 * i);
            for (int site = 0; site < 10; site++) {
                x.want(1, 20 * site);
            }
            Edges.is("serves(3, 0)", x.serves(3, 0), 1);
            Edges.is("serves(3, 1)", x.serves(3, 1), 1 << i);
        }
        Edges.answers("serves(v, 0)", 1, 6, v -> new PierTooFar().serves(v, 0), v -> 0);
        Edges.answers("serves(v, 1)", 1, 6, v -> new PierTooFar().serves(v, 1), v -> 0);
        Edges.is("serves(0, 0)", new PierTooFar().serves(0, 0), -1);
        Edges.is("serves(7, 1)", new PierTooFar().serves(7, 1), -1);
        for (int what : Edges.others(-1, 2)) {
            Edges.is("serves(1, " + what + ")", new PierTooFar().serves(1, what), -1);
        }
    }

    /** So many walkers at MILE 5, one at each MILE 6, 7 and 8, and one ashore. */
    private static PierTooFar out(int atFive) {
        PierTooFar x = Edges.walkers(atFive, 5, 30, 100);
        x.walker(6, 30, 0);
        x.walker(7, 30, 0);
        x.walker(8, 30, 0);
        x.walker(9, 30, 0);
        for (int w = 0; w < atFive + 3; w++) {
            x.act(2, w);
        }
        x.days(1);
        return x;
    }

    private static void boatsBeyond() {
        Edges.holds("Terms 4", "BOATS of c (1 .. 9): those AT a MILE above the first BROKEN one (WALKERS not ashore) come over");
        PierTooFar x = out(2);
        Edges.is("boats(1): nothing BROKEN", x.boats(1), 0);
        x.act(0, 99);
        Edges.is("boats(1): nobody above MILE 99", x.boats(1), 0);
        x.act(0, 8);
        Edges.is("boats(1): at MILE 8, not above it", x.boats(1), 0);
        x.act(0, 7);
        Edges.is("boats(1): one above MILE 7", x.boats(1), 1);
        x.act(0, 6);
        Edges.is("boats(2): two above MILE 6", x.boats(2), 1);
        Edges.is("boats(1): two above MILE 6", x.boats(1), -1);
        x.act(0, 5);
        Edges.is("boats(2): three above MILE 5", x.boats(2), 3);
        x.act(0, 4);
        Edges.is("boats(2): five above MILE 4", x.boats(2), 7);
        x.act(0, 0);
        Edges.is("boats(2): the one ashore is not above MILE 0", x.boats(2), 7);
        for (int m = 4; m <= 8; m++) {
            x.act(1, m);
        }
        Edges.is("boats(2): five above MILE 0, the first BROKEN one", x.boats(2), 7);
        x.act(1, 0);
        Edges.is("boats(2): none of the five above MILE 99", x.boats(2), 0);
        x = Edges.walkers(2, 9, 30, 200);
        Edges.tell(x, 0, "walks 20;");
        x.act(2, 0);
        x.act(2, 1);
        x.days(9);
        x.walker(1, 30, 0);
        x.act(2, 2);
        x.days(1);
        Edges.is("boats(1): two at MILE 199, one at 20, nothing BROKEN", x.boats(1), 0);
        x.act(0, 199);
        Edges.is("boats(1): none above MILE 199", x.boats(1), 0);
        x.act(0, 198);
        Edges.is("boats(2): two above MILE 198", x.boats(2), 1);
        x.act(0, 20);
        Edges.is("boats(2): two above MILE 20", x.boats(2), 1);
        x.act(0, 19);
        Edges.is("boats(2): three above MILE 19", x.boats(2), 3);
    }

    private static void boatsCrossings() {
        Edges.holds("Terms 4",
                "by boats of c, one of whom rows back as long as any are beyond: the fewest crossings (forth and back).");
        for (int n = 1; n <= 12; n++) {
            PierTooFar x = Edges.walkers(n, 5, 30, 100);
            for (int w = 0; w < n; w++) {
                x.act(2, w);
            }
            x.days(1);
            x.act(0, 4);
            for (int c = 1; c <= 9; c++) {
                int due = 1;
                for (int left = n - c; left > 0 && c > 1; left -= c - 1) {
                    due += 2;
                }
                Edges.is("boats(" + c + ") for " + n, x.boats(c), c == 1 && n > 1 ? -1 : due);
            }
        }
    }

    private static void boatsRefused() {
        Edges.holds("Promise 22",
                "BOATS; NONE if c can't be, or c 1 and more than one is beyond (nobody: 0; nothing BROKEN: 0).");
        Edges.answers("boats(v)", 1, 9, v -> new PierTooFar().boats(v), v -> 0);
        PierTooFar x = out(2);
        Edges.answers("boats(v), nothing BROKEN", 1, 9, v -> x.boats(v), v -> 0);
        x.act(0, 60);
        Edges.answers("boats(v), nobody beyond", 1, 9, v -> x.boats(v), v -> 0);
        x.act(0, 7);
        Edges.answers("boats(v), one beyond", 1, 9, v -> x.boats(v), v -> 1);
        x.act(0, 6);
        Edges.answers("boats(v), two beyond", 2, 9, v -> x.boats(v), v -> 1);
        Edges.is("boats(1), two beyond", x.boats(1), -1);
    }

    private static void talkTold() {
        Edges.holds("Promise 23", "TALK: word a is said as b from a MILE on (mile NONE: nothing is then): how many");
        PierTooFar x = new PierTooFar();
        Edges.is("talk(0, 0, -1) of none", x.talk(0, 0, -1), 0);
        for (int i = 1; i <= 16; i++) {
            Edges.is("talk(0, 9, 199)", x.talk(0, 9, 199), i);
        }
        Edges.is("said(0, 198, 0)", x.said(0, 198, 0), 0);
        Edges.is("said(0, 199, 0)", x.said(0, 199, 0), 9);
        Edges.is("talk(3, 4, -1)", x.talk(3, 4, -1), 0);
        Edges.is("said(0, 199, 0)", x.said(0, 199, 0), 0);
        Edges.is("talk(9, 0, 0)", x.talk(9, 0, 0), 1);
        Edges.is("said(9, 0, 0)", x.said(9, 0, 0), 0);
        Edges.is("said(9, 199, 0)", x.said(9, 199, 0), 0);
    }

    private static void talkRefused() {
        Edges.holds("Promise 23", "NONE if one can't be, or there are sixteen.");
        Edges.answers("talk(v, 0, 0)", 0, 9, v -> new PierTooFar().talk(v, 0, 0), v -> 1);
        Edges.answers("talk(0, v, 0)", 0, 9, v -> new PierTooFar().talk(0, v, 0), v -> 1);
        Edges.answers("talk(0, 0, v)", -2, 0, 199, v -> new PierTooFar().talk(0, 0, v), v -> 1);
        PierTooFar x = full();
        Edges.is("the 17th couple", x.talk(0, 0, 0), -1);
        Edges.stays("talk() of what can't be", Edges::busy, y -> {
            y.talk(10, 0, 0);
            y.talk(-1, 0, 0);
            y.talk(0, 10, 0);
            y.talk(0, -1, 0);
            y.talk(0, 0, 200);
            y.talk(0, 0, -2);
        });
        Edges.stays("the 17th couple", EdgesOfThought::full, y -> y.talk(0, 5, 0));
    }

    private static void saidBehind() {
        Edges.holds("Terms 4", "TALK, up to 16 told couples of words (0 .. 9 said as 0 .. 9 by a MILE 0 .. 199):"
                + " SAID of a word at a MILE: behind all couples told for MILES not beyond it");
        PierTooFar x = new PierTooFar();
        x.talk(1, 2, 0);
        x.talk(3, 4, 100);
        x.talk(5, 6, 199);
        int[] miles = {0, 99, 100, 101, 198, 199};
        int[] three = {3, 3, 4, 4, 4, 4};
        int[] five = {5, 5, 5, 5, 5, 6};
        for (int i = 0; i < miles.length; i++) {
            Edges.is("said(1, " + miles[i] + ", 0)", x.said(1, miles[i], 0), 2);
            Edges.is("said(3, " + miles[i] + ", 0)", x.said(3, miles[i], 0), three[i]);
            Edges.is("said(5, " + miles[i] + ", 0)", x.said(5, miles[i], 0), five[i]);
            Edges.is("said(7, " + miles[i] + ", 0): as it is", x.said(7, miles[i], 0), 7);
        }
        x = new PierTooFar();
        for (int i = 0; i < 15; i++) {
            x.talk(0, 1, 50);
        }
        x.talk(1, 2, 50);
        Edges.is("said(0, 50, 0): by the 16th couple, too", x.said(0, 50, 0), 2);
        Edges.is("said(0, 49, 0)", x.said(0, 49, 0), 0);
    }

    private static void saidBecomes() {
        Edges.holds("Terms 4", "one behind the other (the word becomes what it is said as, if it is that one): as what.");
        PierTooFar x = new PierTooFar();
        for (int word = 0; word < 9; word++) {
            x.talk(word, word + 1, 10 * word);
        }
        Edges.is("said(0, 199, 0): one behind the other", x.said(0, 199, 0), 9);
        Edges.is("said(0, 79, 0)", x.said(0, 79, 0), 8);
        Edges.is("said(4, 80, 0)", x.said(4, 80, 0), 9);
        x = new PierTooFar();
        x.talk(1, 2, 0);
        x.talk(0, 1, 0);
        Edges.is("said(0, 0, 0): in the order told", x.said(0, 0, 0), 1);
        x.talk(1, 0, 0);
        Edges.is("said(0, 0, 0): and back", x.said(0, 0, 0), 0);
        Edges.is("said(1, 0, 0)", x.said(1, 0, 0), 2);
    }

    private static void apart() {
        Edges.holds("Terms 4", "APART of MILES a, b: how many of ten words are said otherwise.");
        PierTooFar x = new PierTooFar();
        Edges.is("said(-1, 0, 199): nothing told", x.said(-1, 0, 199), 0);
        for (int word = 0; word < 10; word++) {
            x.talk(word, word + 1 < 10 ? word + 1 : 0, 10 + word);
        }
        int[] due = new int[20];
        for (int m = 0; m < 20; m++) {
            for (int word = 0; word < 10; word++) {
                int as = word;
                for (int couple = 0; couple < 10 && couple + 10 <= m; couple++) {
                    as = as == couple ? (couple + 1) % 10 : as;
                }
                due[m] += as != word ? 1 : 0;
            }
            Edges.is("said(-1, 0, " + m + ")", x.said(-1, 0, m), due[m]);
            Edges.is("said(-1, " + m + ", 0)", x.said(-1, m, 0), due[m]);
            Edges.is("said(-1, " + m + ", " + m + ")", x.said(-1, m, m), 0);
        }
        x = new PierTooFar();
        x.talk(9, 0, 199);
        for (int word = 8; word >= 0; word--) {
            x.talk(word, word + 1, 199);
        }
        Edges.is("said(-1, 199, 198): all ten", x.said(-1, 199, 198), 10);
        x = new PierTooFar();
        for (int word = 0; word < 10; word++) {
            x.talk(word, word < 5 ? 9 : 0, 199);
        }
        Edges.is("said(-1, 199, 198): all but word 0", x.said(-1, 199, 198), 9);
    }

    private static void saidRefused() {
        Edges.holds("Promise 24", "SAID of a word (0 .. 9) at a MILE; APART of MILES m and o (word NONE). NONE if one can't be.");
        Edges.answers("said(v, 0, 0)", -2, 0, 9, v -> new PierTooFar().said(v, 0, 0), v -> v);
        Edges.is("said(-1, 0, 0): word NONE", new PierTooFar().said(-1, 0, 0), 0);
        Edges.answers("said(3, v, 0)", 0, 199, v -> new PierTooFar().said(3, v, 0), v -> 3);
        Edges.answers("said(-1, v, 0)", 0, 199, v -> new PierTooFar().said(-1, v, 0), v -> 0);
        Edges.answers("said(-1, 0, v)", 0, 199, v -> new PierTooFar().said(-1, 0, v), v -> 0);
        Edges.answers("said(-1, 199, v)", 0, 199, v -> new PierTooFar().said(-1, 199, v), v -> 0);
        Edges.range("said(9, v, 0) or NONE", 0, 199, v -> new PierTooFar().said(9, v, 0) != -1);
    }

    private static void didTold() {
        Edges.holds("Promise 25", "DID is told of a YEAR (NONE: nothing is then): how many");
        PierTooFar x = new PierTooFar();
        Edges.is("did(-1, 0) of none", x.did(-1, 0), 0);
        for (int i = 1; i <= 12; i++) {
            Edges.is("did(0, 3)", x.did(0, 3), i);
        }
        Edges.is("fits(0)", x.fits(0), 362797056);
        Edges.is("did(-1, 0)", x.did(-1, 0), 0);
        Edges.is("fits(0)", x.fits(0), 176782322);
        Edges.is("did(11, 200)", x.did(11, 200), 1);
    }

    private static void didRefused() {
        Edges.holds("Promise 25", "NONE if one can't be, or there are twelve.");
        Edges.answers("did(v, 30)", -2, 0, 11, v -> new PierTooFar().did(v, 30), v -> 1);
        Edges.answers("did(3, v)", 0, 200, v -> new PierTooFar().did(3, v), v -> 1);
        Edges.is("the 13th told length", full().did(0, 3), -1);
        Edges.stays("did() of what can't be", Edges::busy, x -> {
            x.did(12, 36);
            x.did(-2, 36);
            x.did(3, 201);
            x.did(3, -1);
        });
        Edges.stays("the 13th told length", EdgesOfThought::full, x -> x.did(0, 18));
    }

    /** For the YEAR to ask for -2, where that is not looked at. */
    private static void fits(String told, Consumer<PierTooFar> telling, int all, int ask) {
        PierTooFar x = new PierTooFar();
        telling.accept(x);
        Edges.is("fits(0) by " + told, x.fits(0), all);
        if (ask != -2) {
            Edges.is("fits(1) by " + told, x.fits(1), ask);
        }
    }

    private static void fitsDeeds() {
        Edges.holds("Terms 4", "DID: told lengths (up to 12: YEAR 0 .. 11, LONG 0 .. 200): deeds 0 .. 5 by YEARS 0 .. 11,"
                + " each adding (deed and 1) times 3 MILES (200 at most), from 0 on");
        for (int length = 0; length <= 200; length++) {
            PierTooFar x = new PierTooFar();
            x.did(0, length);
            boolean can = length % 3 == 0 && length >= 3 && length <= 18;
            Edges.is("fits(0), LONG " + length + " behind YEAR 0", x.fits(0), can ? 362797056 : 0);
        }
        fits("12 of 12 steps of 3", x -> x.did(11, 36), 1, 0);
        fits("11 steps of 3 and one of 6", x -> x.did(11, 39), 12, 5);
        fits("33 behind YEAR 11", x -> x.did(11, 33), 0, -1);
        fits("198, twelve missing 6 of 72", x -> x.did(11, 198), choose(6 + 11, 11) - 12, -2);
        fits("200, twelve missing 5 at most", x -> x.did(11, 200), choose(5 + 12, 12), -2);
        fits("201 can't be, 200 by 198 and more", x -> {
            x.did(10, 198);
            x.did(11, 200);
        }, 6, -2);
        fits("200 stays 200", x -> {
            x.did(10, 199);
            x.did(11, 200);
        }, 0, -1);
        fits("all twelve told", x -> {
            for (int year = 0; year < 12; year++) {
                x.did(year, Math.min(200, 18 * (year + 1)));
            }
        }, 6, 0);
    }

    private static int choose(int n, int k) {
        long ways = 1;
        for (int i = 1; i <= k; i++) {
            ways = ways * (n - k + i) / i;
        }
        return (int) ways;
    }

    private static void fitsWays() {
        Edges.holds("Terms 4",
                "FITS: in how many ways (modulo 1000000007) LONG behind those YEARS is as told (others free)");
        fits("nothing", x -> x.did(-1, 0), (int) (2176782336L % 1000000007L), 11);
        fits("one YEAR", x -> x.did(0, 18), 362797056, -2);
        fits("two YEARS", x -> {
            x.did(1, 21);
            x.did(0, 18);
        }, 60466176, -2);
        fits("one YEAR told twice alike", x -> {
            x.did(0, 18);
            x.did(0, 18);
        }, 362797056, -2);
        fits("one YEAR told twice otherwise", x -> {
            x.did(0, 18);
            x.did(0, 15);
        }, 0, -1);
        fits("the second YEAR alone", x -> x.did(1, 12), 3 * 60466176, -2);
    }

    private static void fitsAsk() {
        Edges.holds("Terms 4", "ASK: the YEAR 0 .. 11 (behind it) at which the greatest number of ways with one and the same LONG"
                + " (whole numbers, not modulo) is least; of several the least.");
        fits("36 behind YEAR 11, one way at each YEAR", x -> x.did(11, 36), 1, 0);
        fits("39 behind YEAR 11, six and six behind YEAR 5", x -> x.did(11, 39), 12, 5);
        fits("nothing, the spread being widest at the end", x -> x.did(-1, 0), 176782322, 11);
        fits("36 behind YEAR 10, the last deed being free", x -> {
            x.did(9, 30);
            x.did(10, 36);
        }, 6, 11);
        for (int year = 0; year < 12; year++) {
            int free = year;
            fits("all YEARS but YEAR " + year, x -> {
                for (int other = 0; other < 12; other++) {
                    if (other != free) {
                        x.did(other, 9 * other + 9);
                    }
                }
            }, year < 11 ? 5 : 6, year);
        }
    }

    private static void fitsRefused() {
        Edges.holds("Promise 26", "FITS (what 0), ASK (1; NONE: no way). NONE for another what.");
        PierTooFar x = new PierTooFar();
        x.did(4, 7);
        Edges.is("fits(0): no way", x.fits(0), 0);
        Edges.is("fits(1): no way", x.fits(1), -1);
        x.did(-1, 0);
        for (int what : Edges.others(-1, 2)) {
            Edges.is("fits(" + what + ")", x.fits(what), -1);
        }
    }
}
