/** Promises 9 to 12 and the second row of the Terms, sentence by sentence: the TAPE, the texts, their FAULTS. */
final class EdgesOfTexts {
    private static final String[] ASKED = {"deed", "bad", "long", "pace", "nerve", "left", "mile", "wind", "year", "strong"};
    private static final String[] KEYWORDS = {"shame", "walks", "storm", "deed", "bad", "long", "pace", "nerve", "left", "mile",
        "wind", "year", "strong", "when", "or", "and", "not", "in", "kiosk", "bed", "lamp", "on"};
    private static final int LEAST = Edges.LEAST;
    private static final int MOST = Edges.MOST;

    private EdgesOfTexts() {
    }

    static void run() {
        feedBytes();
        feedFull();
        endBytes();
        endRefused();
        textLines();
        textEmptiesTheTape();
        textNoSuchOne();
        textWithFault();
        faultAsked();
        faultOther();
        emptyAtFirst();
        lawLines();
        lawEither();
        lawBoth();
        lawClaims();
        lawSums();
        lawProducts();
        lawUnits();
        deedsBounds();
        placesBounds();
        settingBounds();
        sixteenLines();
        letters();
        digits();
        signs();
        blanks();
        intsWrap();
        firstFault();
        leastFault();
        faultAtTheEnd();
        faultDivisor();
        faultBounds();
        faultWalker();
        faultMileAgain();
        faultSeventeenth();
        faultOpen();
        firstLine();
        noLine();
        held();
        shameAsks();
        walksAsks();
        stormAsks();
    }

    private static void feedBytes() {
        Edges.holds("Promise 9", "Twenty bytes come behind the TAPE, of each number the highest first: how many it has.");
        PierTooFar x = new PierTooFar();
        Edges.is("feed(..) of an empty TAPE", x.feed(0x73746f72, 0x6d203132, 0x333b2020, 0x20202020, 0x20202020), 20);
        x.end(10);
        Edges.is("feed(..) behind ten bytes", x.feed(0x20207374, 0x6f726d20, 0x34353b20, 0x20202020, 0x20202020), 30);
        Edges.is("text(0)", x.text(0), 2);
        Edges.is("mile(0, 4)", x.mile(0, 4), 123);
        int blanks = 0x20202020;
        for (int place = 0; place < 20; place++) {
            int other = blanks ^ (0x20 ^ '?') << 24 - 8 * (place % 4);
            int[] numbers = {blanks, blanks, blanks, blanks, blanks};
            numbers[place / 4] = other;
            x.feed(numbers[0], numbers[1], numbers[2], numbers[3], numbers[4]);
            Edges.is("text(0)", x.text(0), -1);
            Edges.is("fault(1)", x.fault(1), place);
        }
        x.feed(0x20202080, 0x202020ff, blanks, blanks, blanks);
        Edges.is("text(0) of bytes above 127", x.text(0), -1);
        Edges.is("fault(1)", x.fault(1), 3);
        x.feed(0xff202020, blanks, blanks, blanks, blanks);
        Edges.is("text(0) of a number below 0", x.text(0), -1);
        Edges.is("fault(1)", x.fault(1), 0);
    }

    private static void feedFull() {
        Edges.holds("Promise 9", "NONE, and nothing comes, if there would be more than 400.");
        PierTooFar x = new PierTooFar();
        int blanks = 0x20202020;
        for (int bytes = 20; bytes <= 380; bytes += 20) {
            Edges.is("feed(..)", x.feed(blanks, blanks, blanks, blanks, blanks), bytes);
        }
        Edges.is("feed(..) of 380", x.feed(blanks, blanks, blanks, blanks, blanks), 400);
        Edges.is("feed(..) of 400", x.feed(0, 0, 0, 0, 0), -1);
        Edges.yes("end(400): nothing came", x.end(400));
        Edges.no("end(401)", x.end(401));
        x.end(381);
        Edges.is("feed(..) of 381", x.feed(0, 0, 0, 0, 0), -1);
        Edges.no("end(382): nothing came", x.end(382));
        x.end(380);
        Edges.is("feed(..) of 380", x.feed(blanks, blanks, blanks, blanks, 0x2020203f), 400);
        Edges.is("feed(..) of 400", x.feed(0, 0, 0, 0, 0), -1);
        Edges.is("text(0)", x.text(0), -1);
        Edges.is("fault(1): the last of 400", x.fault(1), 399);
        x.feed(blanks, blanks, blanks, blanks, blanks);
        x.end(1);
        for (int bytes = 21; bytes <= 381; bytes += 20) {
            Edges.is("feed(..) of one and some", x.feed(blanks, blanks, blanks, blanks, blanks), bytes);
        }
        Edges.is("feed(..) of 381", x.feed(0, 0, 0, 0, 0), -1);
        Edges.is("text(0): blanks alone", x.text(0), 0);
    }

    private static void endBytes() {
        Edges.holds("Promise 10", "The TAPE has its first n bytes alone: true");
        PierTooFar x = new PierTooFar();
        Edges.yes("end(0) of an empty TAPE", x.end(0));
        Due.feed(x, "storm 12;storm 3;   ");
        Edges.yes("end(20) of twenty", x.end(20));
        Edges.yes("end(19)", x.end(19));
        Edges.yes("end(9)", x.end(9));
        Edges.is("feed(..) behind nine", x.feed(0x73746f72, 0x6d20343b, 0x73746f72, 0x6d20353b, 0x20202020), 29);
        Edges.is("text(0)", x.text(0), 3);
        Due.feed(x, "storm 12;");
        Edges.yes("end(7)", x.end(7));
        Edges.is("text(0)", x.text(0), -1);
        Edges.is("fault(1): the end of seven bytes", x.fault(1), 7);
        Due.feed(x, "storm 12;");
        Edges.yes("end(0)", x.end(0));
        Edges.is("text(0) of nothing", x.text(0), 0);
        Due.feed(x, "bedside 1;");
        Edges.yes("end(3)", x.end(3));
        Edges.is("text(2) of \"bed\"", x.text(2), -1);
        Edges.is("fault(0): letters behind the end do not stand together with it", x.fault(0), 1);
        Edges.is("fault(1)", x.fault(1), 3);
        Due.feed(x, "bed 1999;");
        Edges.yes("end(7)", x.end(7));
        Edges.is("text(2) of \"bed 199\"", x.text(2), -1);
        Edges.is("fault(0): digits behind the end do not stand together with it", x.fault(0), 1);
        Edges.is("fault(1)", x.fault(1), 7);
    }

    private static void endRefused() {
        Edges.holds("Promise 10", "false, changing nothing, if it has not so many, or n is below 0.");
        for (int n : new int[] {LEAST, -400, -1, 1, 20, MOST}) {
            Edges.no("end(" + n + ") of an empty TAPE", new PierTooFar().end(n));
        }
        PierTooFar x = new PierTooFar();
        Due.feed(x, "storm 12;storm 345;");
        for (int n : new int[] {LEAST, -20, -1, 20, 21, 400, 401, MOST}) {
            Edges.no("end(" + n + ") of 19 bytes", x.end(n));
        }
        Edges.yes("end(19): nothing has changed", x.end(19));
        Edges.is("text(0)", x.text(0), 2);
        Due.feed(x, "storm 12;storm 345;");
        x.end(-1);
        x.end(20);
        Edges.is("feed(..) behind 19 bytes", x.feed(0, 0, 0, 0, 0), 39);
    }

    private static void textLines() {
        Edges.holds("Promise 11", "The TAPE, empty then, is TEXT k: how many lines.");
        PierTooFar x = Edges.walkers(1, 1, 1, 9);
        String[] lines = {"walks 1;", "in 1 deed 1 bad 1;", "", "on 1 0;"};
        for (int k = 0; k <= 3; k++) {
            Edges.fine(x, k, "", 0);
            Edges.fine(x, k, " \n ", 0);
            for (int n : new int[] {1, 2, 15, 16}) {
                Edges.fine(x, k, k == 2 ? beds(n) : Edges.times(lines[k], n), n);
                Edges.is("look(" + (11 + k) + ")", x.look(11 + k), n);
            }
        }
    }

    private static String beds(int n) {
        StringBuilder text = new StringBuilder();
        for (int m = 10; m < 10 + n; m++) {
            text.append("bed ").append(m).append(';');
        }
        return text.toString();
    }

    private static void textEmptiesTheTape() {
        Edges.holds("Promise 11", "The TAPE, empty then");
        for (int k : new int[] {LEAST, -1, 0, 1, 2, 3, 4, MOST}) {
            for (String tape : new String[] {"", "bed 3;", "storm 7;", "?", Edges.times(" ", 400)}) {
                PierTooFar x = new PierTooFar();
                Edges.tell(x, k, tape);
                Edges.no("end(1) behind text(" + k + ") of " + tape, x.end(1));
                Edges.is("feed(..) behind text(" + k + ") of " + tape, x.feed(0, 0, 0, 0, 0), 20);
            }
        }
    }

    private static void textNoSuchOne() {
        Edges.holds("Promise 11", "NONE: no such one (fault() tells 0)");
        for (int k : Edges.others(-1, 4)) {
            PierTooFar x = new PierTooFar();
            Edges.fault(x, 0, "storm", 1, 5);
            Edges.is("text(" + k + ")", Edges.tell(x, k, "bed 1;"), -1);
            Edges.is("fault(0)", x.fault(0), 0);
            Edges.is("fault(1)", x.fault(1), -1);
            for (int what = 11; what <= 14; what++) {
                Edges.is("look(" + what + ")", x.look(what), 0);
            }
        }
        Edges.stays("text() of no such one", Edges::busy, x -> {
            Edges.tell(x, 4, "storm 1;");
            Edges.tell(x, -1, "");
        });
    }

    private static void textWithFault() {
        Edges.holds("Promise 11", "or a FAULT (it stays as it was).");
        String[] texts = {"storm 1;walks 1;storm", "in 0 deed 1 bad 99;in 1 deed 6", "kiosk 6;bed 7;lamp 200;", "on 0 0;on 1 1;on 2 2;"};
        for (int k = 0; k <= 3; k++) {
            String text = texts[k];
            int sort = k;
            PierTooFar x = Edges.busy();
            Edges.is("text(" + k + ") of \"" + text + "\"", Edges.tell(x, k, text), -1);
            Edges.stays("text(" + k + ") of \"" + text + "\"", () -> faulty(4), y -> {
                Edges.tell(y, sort, text);
                Edges.tell(y, 4, "");
            });
        }
    }

    /** Behind a text that there is not, fault() tells 0. */
    private static PierTooFar faulty(int k) {
        PierTooFar x = Edges.busy();
        Edges.tell(x, k, "");
        return x;
    }

    private static void faultAsked() {
        Edges.holds("Promise 12", "Of the latest text(): what 0 the FAULT (0 without one), 1 its place (NONE).");
        PierTooFar x = new PierTooFar();
        Edges.is("fault(0) ahead of any", x.fault(0), 0);
        Edges.is("fault(1) ahead of any", x.fault(1), -1);
        Edges.fault(x, 0, "?", 1, 0);
        Edges.fault(x, 2, "bed 1;bed 1;", 2, 10);
        Edges.fault(x, 0, Edges.times("storm 1;", 17), 3, 128);
        x.feed(0, 0, 0, 0, 0);
        x.end(3);
        Edges.is("fault(0): feed and end leave it", x.fault(0), 3);
        Edges.is("fault(1)", x.fault(1), 128);
        x.end(0);
        Edges.fine(x, 0, "storm 1;", 1);
        Edges.fault(x, 0, Edges.times(" ", 399) + "?", 1, 399);
        Edges.fault(x, 0, "storm 1" + Edges.times(" ", 393), 1, 400);
        Edges.fine(x, 0, "", 0);
    }

    private static void faultOther() {
        Edges.holds("Promise 12", "NONE for another what.");
        PierTooFar x = new PierTooFar();
        Edges.fault(x, 2, "bed 1;bed 1;", 2, 10);
        for (int what : Edges.others(-1, 2)) {
            Edges.is("fault(" + what + ")", x.fault(what), -1);
        }
    }

    private static void emptyAtFirst() {
        Edges.holds("Terms 2", "TEXTS (empty at first).");
        PierTooFar x = Edges.walkers(1, 4, 9, 20);
        for (int what = 11; what <= 14; what++) {
            Edges.is("look(" + what + ")", x.look(what), 0);
        }
        x.years(1);
        x.days(1);
        Edges.is("look(1): no DEEDS", x.look(1), 20);
        Edges.is("look(7): no SETTING", x.look(7), 0);
        Edges.is("next(0): no PLACES", x.next(0), -1);
        Edges.is("of(0, 6): no LAW", x.of(0, 6), 4);
    }

    private static void lawLines() {
        Edges.holds("Terms 2", "0 THE LAW = {(shame | walks | storm) E [when B] ;}.");
        PierTooFar x = new PierTooFar();
        Edges.fine(x, 0, "", 0);
        Edges.fine(x, 0, "shame 1;", 1);
        Edges.fine(x, 0, "walks 1;", 1);
        Edges.fine(x, 0, "storm 1;", 1);
        Edges.fine(x, 0, "storm 1 when 1=1;shame 2;walks 3 when 2=2;", 3);
        Edges.fault(x, 0, ";", 1, 0);
        Edges.fault(x, 0, "1;", 1, 0);
        Edges.fault(x, 0, "when 1=1;", 1, 0);
        Edges.fault(x, 0, "pace 1;", 1, 0);
        Edges.fault(x, 0, "storm;", 1, 5);
        Edges.fault(x, 0, "storm when 1=1;", 1, 6);
        Edges.fault(x, 0, "storm 1", 1, 7);
        Edges.fault(x, 0, "storm 1 storm 2;", 1, 8);
        Edges.fault(x, 0, "storm 1 when;", 1, 12);
        Edges.fault(x, 0, "storm 1 when 1=1", 1, 16);
        Edges.fault(x, 0, "storm 1 when 1=1 when 1=1;", 1, 17);
        Edges.fault(x, 0, "storm 1;;", 1, 8);
        Edges.fault(x, 0, "storm 1 1=1;", 1, 8);
        for (String other : KEYWORDS) {
            boolean begins = other.equals("shame") || other.equals("walks") || other.equals("storm");
            Edges.is("text(0) of \"" + other + " 1;\"", Edges.tell(x, 0, other + " 1;"), begins ? 1 : -1);
            Edges.is("fault(1) of \"" + other + " 1;\"", x.fault(1), begins ? -1 : 0);
        }
    }

    /** Whether a condition is so. */
    private static void when(PierTooFar x, String condition, boolean due) {
        Edges.fine(x, 0, "storm 5 when " + condition + ";storm 6;", 2);
        Edges.is("storm when " + condition, x.mile(0, 4), due ? 5 : 6);
    }

    private static void lawEither() {
        Edges.holds("Terms 2", "B = A {or A}.");
        PierTooFar x = new PierTooFar();
        for (int bits = 0; bits < 8; bits++) {
            String a = bits % 2 == 1 ? "1=1" : "1=2";
            String b = bits / 2 % 2 == 1 ? "1<2" : "2<2";
            String c = bits / 4 == 1 ? "2>1" : "1>1";
            when(x, a + " or " + b + " or " + c, bits > 0);
            when(x, a + " and " + b + " or " + c, bits >= 3);
            when(x, a + " or " + b + " and " + c, bits % 2 == 1 || bits == 6);
            when(x, "(" + a + " or " + b + ") and " + c, bits > 4);
        }
        Edges.fault(x, 0, "storm 5 when 1=1 or;", 1, 19);
        Edges.fault(x, 0, "storm 5 when or 1=1;", 1, 13);
        Edges.fault(x, 0, "storm 5 when 1=1 or or 1=1;", 1, 20);
        Edges.fault(x, 0, "storm 5 or 1=1;", 1, 8);
    }

    private static void lawBoth() {
        Edges.holds("Terms 2", "A = C {and C}.");
        PierTooFar x = new PierTooFar();
        for (int bits = 0; bits < 8; bits++) {
            String a = bits % 2 == 1 ? "1=1" : "1=2";
            String b = bits / 2 % 2 == 1 ? "1<2" : "2<2";
            String c = bits / 4 == 1 ? "2>1" : "1>1";
            when(x, a + " and " + b + " and " + c, bits == 7);
            when(x, a + " and (" + b + " or " + c + ")", bits % 2 == 1 && bits > 1);
        }
        Edges.fault(x, 0, "storm 5 when 1=1 and;", 1, 20);
        Edges.fault(x, 0, "storm 5 when and 1=1;", 1, 13);
        Edges.fault(x, 0, "storm 5 when 1=1 and and 1=1;", 1, 21);
        Edges.fault(x, 0, "storm 5 when 1=1 1=1;", 1, 17);
    }

    private static void lawClaims() {
        Edges.holds("Terms 2", "C = E (< | = | >) E | not C | ( B ).");
        PierTooFar x = new PierTooFar();
        String[] signs = {"<", "=", ">"};
        int[][] pairs = {{1, 2}, {2, 2}, {3, 2}};
        for (int[] pair : pairs) {
            for (int sign = 0; sign < 3; sign++) {
                boolean due = Integer.compare(pair[0], pair[1]) == sign - 1;
                String claim = pair[0] + signs[sign] + pair[1];
                when(x, claim, due);
                when(x, "not " + claim, !due);
                when(x, "not not " + claim, due);
                when(x, "not (" + claim + ")", !due);
                when(x, "(not " + claim + ")", !due);
            }
        }
        when(x, "not 1=2 and 1=2", false);
        when(x, "not (1=2 and 1=2)", true);
        when(x, "not 1=1 or 1=1", true);
        when(x, "not (1=1 or 1=1)", false);
        when(x, "1=1 and not 1=2", true);
        when(x, "1=1 and not 1=1", false);
        when(x, "1=2 or not 1=2", true);
        when(x, "1=2 or not 1=1", false);
        when(x, "1=1 and (1=2 or not 1=1)", false);
        when(x, "1=1 and (1=2)", false);
        when(x, "(1=2) and (1=1)", false);
        when(x, "1=1 and (1=1) and ((1=2))", false);
        when(x, "1=2 or (1=1) and (1=1)", true);
        when(x, "9999*9999*30<0", true);
        when(x, "0-1<0", true);
        Edges.fault(x, 0, "storm 5 when 1;", 1, 14);
        Edges.fault(x, 0, "storm 5 when 1=;", 1, 15);
        Edges.fault(x, 0, "storm 5 when =1;", 1, 13);
        Edges.fault(x, 0, "storm 5 when 1=1=1;", 1, 16);
        Edges.fault(x, 0, "storm 5 when 1<=1;", 1, 15);
        Edges.fault(x, 0, "storm 5 when not;", 1, 16);
        Edges.fault(x, 0, "storm 5 when ();", 1, 14);
        Edges.fault(x, 0, "storm 5 when (1=1;", 1, 17);
        Edges.fault(x, 0, "storm 5 when 1=1);", 1, 16);
        Edges.fault(x, 0, "storm 5 when (1)=1;", 1, 15);
        Edges.fault(x, 0, "storm 5 when 1=(1);", 1, 15);
        Edges.fault(x, 0, "storm 5 when (1=1", 1, 17);
    }

    private static void law(PierTooFar x, String expression, int due) {
        Edges.fine(x, 0, "storm " + expression + ";", 1);
        Edges.is("storm of " + expression, x.mile(0, 4), due);
    }

    private static void lawSums() {
        Edges.holds("Terms 2", "E = T {(+ | -) T}.");
        PierTooFar x = new PierTooFar();
        law(x, "20-3-4", 13);
        law(x, "20-3+4", 21);
        law(x, "20+3-4", 19);
        law(x, "2+3*4", 14);
        law(x, "20-2*3-4", 10);
        law(x, "2*3-4/2+5", 9);
        Edges.fault(x, 0, "storm +1;", 1, 6);
        Edges.fault(x, 0, "storm -1;", 1, 6);
        Edges.fault(x, 0, "storm 1+;", 1, 8);
        Edges.fault(x, 0, "storm 1-", 1, 8);
        Edges.fault(x, 0, "storm 1+-1;", 1, 8);
        Edges.fault(x, 0, "storm 1 1;", 1, 8);
    }

    private static void lawProducts() {
        Edges.holds("Terms 2", "T = U {* U | / NUMBER}.");
        PierTooFar x = new PierTooFar();
        law(x, "2*3*4", 24);
        law(x, "100/7/2", 7);
        law(x, "7/2*2", 6);
        law(x, "7*2/2", 7);
        law(x, "7/1", 7);
        law(x, "7/9999", 0);
        Edges.fault(x, 0, "storm *1;", 1, 6);
        Edges.fault(x, 0, "storm 1*;", 1, 8);
        Edges.fault(x, 0, "storm 1/;", 1, 8);
        Edges.fault(x, 0, "storm 1/bad;", 1, 8);
        Edges.fault(x, 0, "storm 1*/2;", 1, 8);
        Edges.fault(x, 0, "storm (1);", 1, 6);
        Edges.fault(x, 0, "storm 1*(1);", 1, 8);
    }

    private static void lawUnits() {
        Edges.holds("Terms 2", "U = NUMBER | deed | bad | long | pace | nerve | left | mile | wind | year | strong.");
        PierTooFar x = new PierTooFar();
        for (String asked : ASKED) {
            Edges.fine(x, 0, "storm " + asked + "*" + asked + "-" + asked + " when " + asked + "=" + asked + ";", 1);
        }
        for (String other : new String[] {"shame", "walks", "storm", "when", "or", "and", "not", "in", "kiosk", "bed", "lamp", "on",
            "deeds", "bads", "day", "lost", "state", "LONG", "Wind", "a", "x"}) {
            Edges.fault(x, 0, "storm " + other + ";", 1, 6);
            Edges.fault(x, 0, "storm 1*" + other + ";", 1, 8);
        }
    }

    private static void deedsBounds() {
        Edges.holds("Terms 2", "1 DEEDS = {in YEAR deed DEED bad N ;} (YEAR 0 .. 999, DEED 0 .. 5, N 0 .. 99.)");
        PierTooFar x = new PierTooFar();
        for (int[] line : new int[][] {{0, 0, 0}, {1, 1, 1}, {998, 4, 98}, {999, 5, 99}}) {
            Edges.fine(x, 1, "in " + line[0] + " deed " + line[1] + " bad " + line[2] + ";", 1);
        }
        Edges.fault(x, 1, "in 1000 deed 0 bad 0;", 2, 3);
        Edges.fault(x, 1, "in 9999 deed 0 bad 0;", 2, 3);
        Edges.fault(x, 1, "in 0 deed 6 bad 0;", 2, 10);
        Edges.fault(x, 1, "in 0 deed 9999 bad 0;", 2, 10);
        Edges.fault(x, 1, "in 0 deed 0 bad 100;", 2, 16);
        Edges.fault(x, 1, "in 0 deed 0 bad 9999;", 2, 16);
        Edges.fault(x, 1, "in -1 deed 0 bad 0;", 1, 3);
        for (String other : KEYWORDS) {
            if (!other.equals("in")) {
                Edges.fault(x, 1, other + " 0 deed 0 bad 0;", 1, 0);
            }
        }
        String[] tokens = {"in", "0", "deed", "0", "bad", "0", ";"};
        int place = 0;
        StringBuilder before = new StringBuilder();
        for (String token : tokens) {
            Edges.fault(x, 1, before + "? ", 1, place);
            Edges.fault(x, 1, before + (token.equals("0") ? "bad" : "0"), 1, place);
            before.append(token).append(' ');
            place = before.length();
        }
        Edges.fine(x, 1, before.toString(), 1);
        x = new PierTooFar();
        Edges.fine(x, 1, "in 0 deed 5 bad 99;", 1);
        x.years(1);
        Edges.line(x, 0, 0, 0, 5, 12);
    }

    private static void placesBounds() {
        Edges.holds("Terms 2", "2 PLACES = {(kiosk | bed | lamp) MILE ;}");
        PierTooFar x = new PierTooFar();
        String[] sorts = {"kiosk", "bed", "lamp"};
        for (int sort = 0; sort < 3; sort++) {
            Edges.fine(x, 2, sorts[sort] + " 0;" + sorts[sort] + " 199;", 2);
            for (int what = 1; what <= 3; what++) {
                Edges.is("mile(0, " + what + ")", x.mile(0, what), what == sort + 1 ? 1 : 0);
                Edges.is("mile(199, " + what + ")", x.mile(199, what), what == sort + 1 ? 1 : 0);
                Edges.is("mile(1, " + what + ")", x.mile(1, what), 0);
                Edges.is("mile(198, " + what + ")", x.mile(198, what), 0);
            }
            Edges.fault(x, 2, sorts[sort] + " 200;", 2, sorts[sort].length() + 1);
            Edges.fault(x, 2, sorts[sort] + " 9999;", 2, sorts[sort].length() + 1);
            Edges.fault(x, 2, sorts[sort] + ";", 1, sorts[sort].length());
            Edges.fault(x, 2, sorts[sort] + " 1", 1, sorts[sort].length() + 2);
            Edges.fault(x, 2, sorts[sort] + " 1 1;", 1, sorts[sort].length() + 3);
        }
        Edges.fault(x, 2, ";", 1, 0);
        Edges.fault(x, 2, "7;", 1, 0);
        Edges.fault(x, 2, "on 1 1;", 1, 0);
        for (String other : KEYWORDS) {
            boolean begins = other.equals("kiosk") || other.equals("bed") || other.equals("lamp");
            Edges.is("text(2) of \"" + other + " 1;\"", Edges.tell(x, 2, other + " 1;"), begins ? 1 : -1);
            Edges.is("fault(1) of \"" + other + " 1;\"", x.fault(1), begins ? -1 : 0);
        }
    }

    private static void settingBounds() {
        Edges.holds("Terms 2", "3 SETTING = {on DAY WALKER ;} (DAY 0 .. 999: he sets off.)");
        PierTooFar x = Edges.walkers(12, 1, 9, 20);
        Edges.fine(x, 3, "on 0 0;on 999 11;on 998 10;", 3);
        Edges.fault(x, 3, "on 1000 0;", 2, 3);
        Edges.fault(x, 3, "on 9999 0;", 2, 3);
        Edges.fault(x, 3, "on;", 1, 2);
        Edges.fault(x, 3, "on 0;", 1, 4);
        Edges.fault(x, 3, "on 0 0", 1, 6);
        Edges.fault(x, 3, "on 0 0 0;", 1, 7);
        Edges.fault(x, 3, "on -1 0;", 1, 3);
        for (String other : KEYWORDS) {
            if (!other.equals("on")) {
                Edges.fault(x, 3, other + " 0 0;", 1, 0);
            }
        }
        Edges.is("look(14)", x.look(14), 3);
        x.days(1);
        Edges.is("look(7)", x.look(7), 1);
    }

    private static void sixteenLines() {
        Edges.holds("Terms 2", "16 lines of each at most.");
        PierTooFar x = Edges.walkers(1, 1, 9, 20);
        String[] lines = {"shame 1;", "in 0 deed 0 bad 0;", "", "on 0 0;"};
        for (int k = 0; k <= 3; k++) {
            Edges.fine(x, k, k == 2 ? beds(16) : Edges.times(lines[k], 16), 16);
            Edges.is("text(" + k + ") of 17 lines", Edges.tell(x, k, k == 2 ? beds(17) : Edges.times(lines[k], 17)), -1);
            Edges.is("look(" + (11 + k) + ")", x.look(11 + k), 16);
        }
        Edges.is("mile(25, 2): the 16th", x.mile(25, 2), 1);
        Edges.is("mile(26, 2): the 17th", x.mile(26, 2), 0);
        x.years(1);
        Edges.is("look(9): 16 deeds", x.look(9), 16);
        x = Edges.walkers(1, 1, 1, 0);
        StringBuilder law = new StringBuilder();
        for (int i = 0; i < 15; i++) {
            law.append("storm ").append(i + 1).append(" when year=").append(i).append(';');
        }
        Edges.fine(x, 0, law + "storm 99;", 16);
        x.years(14);
        Edges.is("mile(0, 4): the 15th line", x.mile(0, 4), 15);
        x.years(1);
        Edges.is("mile(0, 4): the 16th line", x.mile(0, 4), 99);
    }

    private static void letters() {
        Edges.holds("Terms 2", "TOKENS: letters as many as stand together are KEYWORDS (those told here for that text) or none");
        PierTooFar x = Edges.walkers(1, 1, 9, 20);
        Edges.fine(x, 0, "storm1when1=1and not2=3or 4=4;", 1);
        Edges.fault(x, 0, "storms 1;", 1, 0);
        Edges.fault(x, 0, "stor m 1;", 1, 0);
        Edges.fault(x, 0, "s", 1, 0);
        Edges.fault(x, 0, "STORM 1;", 1, 0);
        Edges.fault(x, 0, "storM 1;", 1, 0);
        Edges.fault(x, 0, "stormwalks 1;", 1, 0);
        Edges.fault(x, 0, "storm 1 when1=1 and2=2 or3=3 andnot 4=4;", 1, 29);
        for (char letter : new char[] {'a', 'b', 'y', 'z', 'A', 'B', 'Y', 'Z'}) {
            Edges.fault(x, 0, "storm" + letter + " 1;", 1, 0);
        }
        for (char other : new char[] {'@', '[', '`', '{', '_', 0, 127, 128, 255}) {
            Edges.fault(x, 0, "storm" + other + " 1;", 1, 5);
        }
        String[] own = {"shame 1;", "in 1 deed 1 bad 1;", "bed 1;", "on 1 0;"};
        for (int k = 0; k <= 3; k++) {
            for (int of = 0; of <= 3; of++) {
                if (k == of) {
                    Edges.fine(x, k, own[of], 1);
                } else {
                    Edges.fault(x, k, own[of], 1, 0);
                }
            }
        }
    }

    private static void digits() {
        Edges.holds("Terms 2", "digits as many as stand together NUMBERS of 1 to 4 digits or none");
        PierTooFar x = new PierTooFar();
        law(x, "0", 0);
        law(x, "9", 9);
        law(x, "0009", 9);
        law(x, "0999", 999);
        law(x, "9999-9000", 999);
        Edges.fault(x, 0, "storm 00009;", 1, 6);
        Edges.fault(x, 0, "storm 12345;", 1, 6);
        Edges.fault(x, 0, "storm 123456789012;", 1, 6);
        Edges.fault(x, 0, "storm 1234 5;", 1, 11);
        Edges.fault(x, 0, "storm 5/00000;", 1, 8);
        Edges.fault(x, 2, "bed 00001;", 1, 4);
        Edges.fine(x, 2, "bed 0001;", 1);
        for (char beside : new char[] {'/' - 1, ':'}) {
            Edges.fault(x, 0, "storm " + beside + ";", 1, 6);
        }
    }

    private static void signs() {
        Edges.holds("Terms 2", "; + - * / ( ) < = > .");
        PierTooFar x = new PierTooFar();
        Edges.fine(x, 0, "storm 1+2-3*4/5 when(1<2)and(2=2)and(3>2);", 1);
        for (int sign = 0; sign < 256; sign++) {
            boolean blank = sign == ' ' || sign == '\n';
            if (";+-*/()<=>".indexOf(sign) < 0 && !Character.isLetterOrDigit((char) sign) && !blank) {
                Edges.fault(new PierTooFar(), 0, "storm 1" + (char) sign + "1;", 1, 7);
            }
        }
    }

    private static void blanks() {
        Edges.holds("Terms 2", "Blanks (32, 10) between.");
        PierTooFar x = new PierTooFar();
        Edges.fine(x, 0, "storm 1 + 2\nwhen\n\n1 = 1 ;\n", 1);
        Edges.fine(x, 0, "  storm 1 ;  storm 2;", 2);
        Edges.fine(x, 0, "\n", 0);
        for (int other : new int[] {0, 8, 9, 11, 12, 13, 31, 33, 160}) {
            Edges.fault(x, 0, "storm" + (char) other + "1;", 1, 5);
            Edges.fault(x, 0, "" + (char) other, 1, 0);
        }
        Edges.fault(x, 0, "storm 1 2;", 1, 8);
        Edges.fault(x, 0, "st orm 1;", 1, 0);
    }

    private static void intsWrap() {
        Edges.holds("Terms 2", "Ints, which wrap; / goes towards 0.");
        PierTooFar x = new PierTooFar();
        law(x, "4096*4096*256", 0);
        law(x, "4096*4096*256+7", 7);
        law(x, "8192*8192*64+8192*8192*64+5", 5);
        law(x, "4096*4096*128", 0);
        law(x, "4096*4096*128-1", 1000);
        when(x, "4096*4096*128<0", true);
        when(x, "4096*4096*128-1>0", true);
        when(x, "4096*4096*128+4096*4096*128=0", true);
        when(x, "0-4096*4096*128=4096*4096*128", true);
        when(x, "4096*4096*128*4096=0", true);
        when(x, "4096*4096*128/1000*1000=4096*4096*128+648", true);
        when(x, "4096*4096*255/9999=0-1677", true);
        when(x, "4096*4096*255/4096=0-4096", true);
        when(x, "9999*9999*30/9*9>9999*9999*30", true);
        when(x, "7/2=3 and 1/2=0 and 9999/9999=1", true);
    }

    private static void firstFault() {
        Edges.holds("Terms 2", "FAULTS, the first by its place");
        PierTooFar x = Edges.walkers(1, 1, 9, 20);
        Edges.fault(x, 0, "storm 1/0; storm ? 12345", 2, 8);
        Edges.fault(x, 0, "storm ? /0;", 1, 6);
        Edges.fault(x, 2, "bed 200;bed ?", 2, 4);
        Edges.fault(x, 2, "bed ?;bed 200;", 1, 4);
        Edges.fault(x, 1, "in 1000 deed 6 bad 100;", 2, 3);
        Edges.fault(x, 1, "in 1 deed 6 bad 100 ?", 2, 10);
        Edges.fault(x, 3, "on 1000 5?", 2, 3);
        Edges.fault(x, 3, "on 1 5?", 2, 5);
        Edges.fault(x, 0, Edges.times("storm 1;", 15) + "storm 1/0;storm 1;", 2, 128);
        Edges.fault(x, 0, "storm 1 when (((((((((1/0=1", 3, 21);
        Edges.fault(x, 0, "storm 1 when ((((((((1/0=1", 2, 23);
    }

    private static void leastFault() {
        Edges.holds("Terms 2", "at one place the least");
        PierTooFar x = Edges.walkers(1, 1, 9, 20);
        Edges.fault(x, 0, Edges.times("storm 1;", 16) + "bed 1;", 1, 128);
        Edges.fault(x, 0, Edges.times("storm 1;", 16) + "stormy 1;", 1, 128);
        Edges.fault(x, 0, Edges.times("storm 1;", 16) + ";", 1, 128);
        Edges.fault(x, 0, Edges.times("storm 1;", 16) + "storm 1;", 3, 128);
        Edges.fault(x, 2, beds(16) + "bed 10;", 3, 112);
        Edges.fault(x, 2, beds(16) + "in", 1, 112);
        Edges.fault(x, 0, "storm 1 when ((((((((1<(", 1, 23);
        Edges.fault(x, 0, "storm 1 when ((((((((1 not", 1, 23);
        Edges.fault(x, 0, "storm 1 when ((((((((1=1(", 1, 24);
    }

    private static void faultAtTheEnd() {
        Edges.holds("Terms 2", "1 what can't stand there (the end: the text's length).");
        PierTooFar x = Edges.walkers(1, 1, 9, 20);
        for (String text : new String[] {"storm", "storm ", "storm 1", "storm 1+", "storm 1 when", "storm 1 when 1", "storm 1 when 1=",
            "storm 1 when 1=1", "storm 1 when 1=1 or", "storm 1 when 1=1 and", "storm 1 when not", "storm 1 when (", "storm 1 when (1=1",
            "storm 1/", "storm 1*", "storm 1;storm\n \n"}) {
            Edges.fault(x, 0, text, 1, text.length());
        }
        x = Edges.walkers(1, 1, 9, 20);
        for (String text : new String[] {"in", "in 1", "in 1 deed", "in 1 deed 1", "in 1 deed 1 bad", "in 1 deed 1 bad 1", "in 1  "}) {
            Edges.fault(x, 1, text, 1, text.length());
        }
        for (String text : new String[] {"bed", "bed 1", "bed 1 \n", "bed 1;lamp"}) {
            Edges.fault(x, 2, text, 1, text.length());
        }
        for (String text : new String[] {"on", "on 1", "on 1 0", "on 1 0;on 1 0 "}) {
            Edges.fault(x, 3, text, 1, text.length());
        }
        Edges.fault(x, 0, "storm 1 ? when", 1, 8);
        Edges.fault(x, 0, "storm" + Edges.times(" ", 395), 1, 400);
    }

    private static void faultDivisor() {
        Edges.holds("Terms 2", "2 (at the NUMBER) a part by 0");
        PierTooFar x = new PierTooFar();
        Edges.fine(x, 0, "storm 1/1;storm 0/1;storm 0*0;", 3);
        Edges.fault(x, 0, "storm 1/0;", 2, 8);
        Edges.fault(x, 0, "storm 1 / 0000;", 2, 10);
        Edges.fault(x, 0, "storm 1/1/0", 2, 10);
        Edges.fault(x, 0, "storm 1 when 1=1/0;", 2, 17);
        Edges.fault(x, 0, "storm 1/00000;", 1, 8);
        Edges.fault(x, 0, "storm 1/ ;", 1, 9);
    }

    private static void faultBounds() {
        Edges.holds("Terms 2", "one beyond its bounds");
        PierTooFar x = Edges.walkers(1, 1, 9, 20);
        Edges.fine(x, 1, "in 999 deed 5 bad 99;", 1);
        Edges.fault(x, 1, "in  1000 deed 5 bad 99;", 2, 4);
        Edges.fault(x, 1, "in 999 deed  6 bad 99;", 2, 13);
        Edges.fault(x, 1, "in 999 deed 5 bad  100;", 2, 19);
        Edges.fine(x, 2, "kiosk 199;", 1);
        Edges.fault(x, 2, "kiosk  200;", 2, 7);
        Edges.fine(x, 3, "on 999 0;", 1);
        Edges.fault(x, 3, "on  1000 0;", 2, 4);
        Edges.fine(x, 0, "storm 9999;", 1);
    }

    private static void faultWalker() {
        Edges.holds("Terms 2", "a WALKER that there is not");
        PierTooFar x = Edges.pier(20);
        Edges.fault(x, 3, "on 0 0;", 2, 5);
        for (int n = 1; n <= 12; n++) {
            x.walker(1, 9, 1);
            Edges.fine(x, 3, "on 0 " + (n - 1) + ";", 1);
            Edges.fault(x, 3, "on 0 " + n + ";", 2, 5);
        }
        Edges.fault(x, 3, "on 0 9999;", 2, 5);
        Edges.fault(x, 3, "on 0 0;on 1 0012;", 2, 12);
    }

    private static void faultMileAgain() {
        Edges.holds("Terms 2", "the same MILE again of one sort (of PLACES).");
        PierTooFar x = new PierTooFar();
        for (String sort : new String[] {"kiosk", "bed", "lamp"}) {
            Edges.fault(x, 2, sort + " 7;" + sort + " 7;", 2, 2 * sort.length() + 4);
            Edges.fault(x, 2, sort + " 7;" + sort + " 8;" + sort + " 0007", 2, 3 * sort.length() + 7);
            Edges.fine(x, 2, sort + " 7;" + sort + " 8;", 2);
            Edges.fine(x, 2, sort + " 7;", 1);
            Edges.fault(x, 2, sort + " 0;" + sort + " 0;", 2, 2 * sort.length() + 4);
            Edges.fault(x, 2, sort + " 0;" + sort + ";", 1, 2 * sort.length() + 3);
            Edges.fault(x, 2, sort + " 0;" + sort + " 00000;", 1, 2 * sort.length() + 4);
        }
        Edges.fine(x, 2, "kiosk 7;bed 7;lamp 7;", 3);
        Edges.fine(x, 2, "kiosk 0;bed 0;lamp 0;", 3);
        Edges.fine(x, 1, "in 1 deed 1 bad 1;in 1 deed 1 bad 1;", 2);
        x.walker(1, 1, 1);
        Edges.fine(x, 3, "on 1 0;on 1 0;", 2);
    }

    private static void faultSeventeenth() {
        Edges.holds("Terms 2", "3 (at its KEYWORD) the 17th line of a text");
        PierTooFar x = Edges.walkers(1, 1, 9, 20);
        Edges.fault(x, 0, Edges.times("shame 1;", 17), 3, 128);
        Edges.fault(x, 0, Edges.times("shame 1;", 16) + "  walks", 3, 130);
        Edges.fault(x, 1, Edges.times("in 1 deed 1 bad 1;", 17), 3, 288);
        Edges.fault(x, 1, Edges.times("in 1 deed 1 bad 1;", 16) + "\nin", 3, 289);
        Edges.fault(x, 2, beds(17), 3, 112);
        Edges.fault(x, 2, beds(16) + " lamp", 3, 113);
        Edges.fault(x, 3, Edges.times("on 1 0;", 17), 3, 112);
        Edges.fault(x, 3, Edges.times("on 1 0;", 16) + " on", 3, 113);
        for (int what = 11; what <= 14; what++) {
            Edges.is("look(" + what + ")", x.look(what), 0);
        }
    }

    private static void faultOpen() {
        Edges.holds("Terms 2", "(at it) the 9th ( or not that is open.");
        PierTooFar x = new PierTooFar();
        for (int parts = 0; parts <= 8; parts++) {
            String open = Edges.times("(", parts) + Edges.times("not ", 8 - parts);
            String closed = Edges.times(")", parts);
            Edges.fine(x, 0, "storm 1 when " + open + "1=1" + closed + ";", 1);
            int ninth = 13 + open.length();
            Edges.fault(x, 0, "storm 1 when " + open + "(1=1)" + closed + ";", 3, ninth);
            Edges.fault(x, 0, "storm 1 when " + open + "not 1=1" + closed + ";", 3, ninth);
            Edges.fault(x, 0, "storm 1 when " + open + "not", 3, ninth);
        }
        x = new PierTooFar();
        String eight = "((((((((1=1))))))))";
        Edges.fine(x, 0, "storm 1 when " + eight + " and " + eight + " or not not not not not not not not 1=1;", 1);
        Edges.fine(x, 0, "storm 1 when (((((((not 1=1 and not 1=1 or not 1=1)))))));", 1);
        Edges.fine(x, 0, "storm 1 when (((((((1=1) and (1=1)) or (1=1)" + Edges.times(")", 5) + ";", 1);
        Edges.fault(x, 0, "storm 1 when " + eight + " and (" + eight + ");", 3, 45);
        Edges.fault(x, 0, "storm 1 when (((((((not 1=1 and not (1=1))))))));", 3, 36);
        when(x, "not not not not not not not not 1=1", true);
        when(x, "not (not (not (not (1=1))))", true);
    }

    private static void firstLine() {
        Edges.holds("Terms 2", "What THE LAW tells for a word: E of the first line with that word whose B is so, or that has none");
        PierTooFar x = Edges.walkers(1, 4, 9, 20);
        Edges.tell(x, 0, "walks 9;shame 2 when deed=1;storm 8;shame 3 when deed>0;shame 4;shame 5;walks 7;storm 6 when 1=1;");
        Edges.is("shame(1, 0), the first one", x.shame(1, 0), 2);
        Edges.is("shame(2, 0), the second one", x.shame(2, 0), 3);
        Edges.is("shame(0, 0), the one without B", x.shame(0, 0), 4);
        Edges.is("of(0, 6)", x.of(0, 6), 9);
        Edges.is("mile(0, 4)", x.mile(0, 4), 8);
        Edges.tell(x, 0, "walks 5 when pace=4;walks 6 when pace=4;");
        Edges.is("of(0, 6)", x.of(0, 6), 5);
    }

    private static void noLine() {
        Edges.holds("Terms 2", "(none: shame: bad by 9 and 1, walks: pace, storm: 10 times wind)");
        PierTooFar x = new PierTooFar();
        for (int pace = 1; pace <= 9; pace++) {
            x.walker(pace, 9, 0);
        }
        Edges.tell(x, 0, "shame 20 when 1=2;walks 20 when 1=2;storm 20 when 1=2;");
        for (int round = 0; round < 2; round++) {
            for (int bad : new int[] {0, 8, 9, 17, 18, 89, 90, 98, 99}) {
                Edges.is("shame(0, " + bad + ")", x.shame(0, bad), (bad + 9) / 9);
            }
            for (int pace = 1; pace <= 9; pace++) {
                Edges.is("of(" + (pace - 1) + ", 6)", x.of(pace - 1, 6), pace);
            }
            for (int wind = 0; wind <= 9; wind++) {
                x.set(0, 0, wind);
                Edges.is("mile(0, 4)", x.mile(0, 4), 10 * wind);
            }
            Edges.tell(x, 0, "");
        }
        Edges.tell(x, 0, "shame 20;");
        Edges.is("of(8, 6): no line with walks", x.of(8, 6), 9);
        Edges.is("mile(0, 4): no line with storm", x.mile(0, 4), 90);
    }

    private static void held() {
        Edges.holds("Terms 2", "shame held to 0 .. 20, walks to 0 .. 20, storm to 0 .. 1000.");
        PierTooFar x = Edges.walkers(1, 4, 9, 20);
        String[] told = {"0-4096*4096*128", "0-9999", "0-1", "0", "1", "19", "20", "21", "999", "1000", "1001", "9999", "4096*4096*128-1"};
        int[] most20 = {0, 0, 0, 0, 1, 19, 20, 20, 20, 20, 20, 20, 20};
        int[] most1000 = {0, 0, 0, 0, 1, 19, 20, 21, 999, 1000, 1000, 1000, 1000};
        for (int i = 0; i < told.length; i++) {
            Edges.tell(x, 0, "shame " + told[i] + ";walks " + told[i] + ";storm " + told[i] + ";");
            Edges.is("shame " + told[i], x.shame(0, 0), most20[i]);
            Edges.is("walks " + told[i], x.of(0, 6), most20[i]);
            Edges.is("storm " + told[i], x.mile(0, 4), most1000[i]);
        }
    }

    /** WALKER 0 ashore, WALKER 1 out at MILE 3 with 8 days; YEAR 4, WIND 8, LONG 5, part 2 STRONG. */
    private static PierTooFar ready() {
        PierTooFar x = new PierTooFar();
        x.walker(2, 9, 6);
        x.walker(3, 9, 7);
        x.years(4);
        x.set(0, 0, 8);
        x.set(1, 0, 5);
        x.set(5, 2, 1);
        x.act(2, 1);
        x.days(1);
        return x;
    }

    private static void shameAsks() {
        Edges.holds("Terms 2", "shame of a DEED: deed, bad: its; long: LONG; wind; year; the rest 0.");
        PierTooFar x = ready();
        int[] due = {3, 13, 5, 0, 0, 0, 0, 8, 4, 0};
        for (int i = 0; i < ASKED.length; i++) {
            Edges.tell(x, 0, "shame " + ASKED[i] + ";");
            x.of(1, 6);
            x.mile(59, 4);
            Edges.is("shame(3, 13) by " + ASKED[i], x.shame(3, 13), due[i]);
            Edges.is("owns(3, 13) by " + ASKED[i], x.owns(3, 13), due[i]);
            x.undo();
        }
    }

    private static void walksAsks() {
        Edges.holds("Terms 2",
                "walks of a WALKER: pace, nerve, left: his; mile: where he is (ashore 0); long, wind; the rest 0.");
        PierTooFar x = ready();
        int[] ashore = {0, 0, 5, 2, 6, 0, 0, 8, 0, 0};
        int[] out = {0, 0, 5, 3, 7, 8, 3, 8, 0, 0};
        for (int i = 0; i < ASKED.length; i++) {
            Edges.tell(x, 0, "walks " + ASKED[i] + ";");
            x.shame(5, 99);
            x.mile(59, 4);
            Edges.is("of(0, 6) by " + ASKED[i], x.of(0, 6), ashore[i]);
            Edges.is("of(1, 6) by " + ASKED[i], x.of(1, 6), out[i]);
        }
    }

    private static void stormAsks() {
        Edges.holds("Terms 2",
                "storm of a part (0 .. 9): mile: its first MILE; long, wind, year; strong: 1, if it is STRONG; the rest 0.");
        PierTooFar x = ready();
        int[] strong = {0, 0, 5, 0, 0, 0, 40, 8, 4, 1};
        int[] last = {0, 0, 5, 0, 0, 0, 180, 8, 4, 0};
        for (int i = 0; i < ASKED.length; i++) {
            Edges.tell(x, 0, "storm " + ASKED[i] + ";");
            x.shame(5, 99);
            x.of(1, 6);
            Edges.is("mile(40, 4) by " + ASKED[i], x.mile(40, 4), strong[i]);
            Edges.is("mile(59, 4) by " + ASKED[i], x.mile(59, 4), strong[i]);
            Edges.is("mile(180, 4) by " + ASKED[i], x.mile(180, 4), last[i]);
            Edges.is("mile(199, 4) by " + ASKED[i], x.mile(199, 4), last[i]);
            Edges.is("mile(39, 4) by " + ASKED[i], x.mile(39, 4), ASKED[i].equals("mile") ? 20 : last[i]);
        }
    }
}
