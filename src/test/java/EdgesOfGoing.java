/** Promises 7, 8 and 16, and the third row of the Terms, sentence by sentence: YEARS, DAYS, by hand, THE BOOK. */
final class EdgesOfGoing {
    private static final int LEAST = Edges.LEAST;
    private static final int MOST = Edges.MOST;
    /** The first DRAW from STATE 0 is 563 of 1000, the next one 17 of 20; the STATES behind them. */
    private static final int FIRST = 1013904223;
    private static final int SECOND = 1196435762;

    private EdgesOfGoing() {
    }

    static void run() {
        yearsBounds();
        yearsHowMany();
        yearsRefused();
        yearsLast();
        daysBounds();
        daysHowMany();
        daysRefused();
        daysLast();
        yearDeeds();
        yearLong();
        yearParts();
        yearStormOfNothing();
        yearDraws();
        yearBreaks();
        yearMore();
        daySettingOff();
        daySettingOffNot();
        dayLeft();
        dayHalf();
        dayWalks();
        dayStays();
        dayStaysBack();
        dayHome();
        dayLost();
        dayMore();
        handOwns();
        handBreaks();
        handMends();
        handSetsOff();
        bookLines();
        bookTells();
        bookAsked();
        bookRefused();
    }

    private static void yearsBounds() {
        Edges.holds("Promise 7", "YEARS go by (1 .. 60)");
        Edges.range("years(v)", 1, 60, v -> {
            PierTooFar x = new PierTooFar();
            return x.years(v) == 0 && x.look(4) == v;
        });
    }

    private static void yearsHowMany() {
        Edges.holds("Promise 7", "how many MILES broke");
        PierTooFar x = Edges.pier(0);
        Edges.tell(x, 0, "storm 1000;");
        Edges.is("years(1) without a MILE", x.years(1), 0);
        x.set(1, 0, 200);
        Edges.is("years(1), each part", x.years(1), 10);
        Edges.is("look(2)", x.look(2), 10);
        int more = x.years(2);
        Edges.is("years(2), those of both YEARS that were not BROKEN yet", more, x.look(2) - 10);
        Edges.yes("years(2), more than of one YEAR", more > 10);
        x = Edges.pier(200);
        Edges.is("years(60) without a storm", x.years(60), 0);
    }

    private static void yearsRefused() {
        Edges.holds("Promise 7", "NONE, and nothing is done, if one can't be");
        for (int n : new int[] {LEAST, -60, -1, 0, 61, 100, MOST}) {
            Edges.is("years(" + n + ")", Edges.busy().years(n), -1);
        }
        Edges.stays("years() of a number that can't be", Edges::busy, x -> {
            x.years(0);
            x.years(61);
            x.years(-1);
        });
    }

    /** YEAR 9939 by calls of 60 and one of 39. */
    private static PierTooFar atYear(int year) {
        PierTooFar x = new PierTooFar();
        for (int i = 0; i < year / 60; i++) {
            x.years(60);
        }
        if (year % 60 > 0) {
            x.years(year % 60);
        }
        return x;
    }

    private static void yearsLast() {
        Edges.holds("Promise 7", "NONE, and nothing is done, if one can't be, or YEAR would be above 9999.");
        PierTooFar x = atYear(9939);
        Edges.is("years(60) to 9999", x.years(60), 0);
        Edges.is("look(4)", x.look(4), 9999);
        Edges.is("years(1) to 10000", x.years(1), -1);
        Edges.is("look(4)", x.look(4), 9999);
        x = atYear(9940);
        x.set(1, 0, 200);
        x.set(0, 0, 9);
        Edges.is("years(60) to 10000", x.years(60), -1);
        Edges.is("look(4)", x.look(4), 9940);
        Edges.is("look(10): no DRAW", x.look(10), 0);
        Edges.is("look(15): nothing to undo", x.look(15), 0);
        Edges.yes("years(59) to 9999", x.years(59) > 0);
        Edges.is("look(4)", x.look(4), 9999);
        int state = x.look(10);
        for (int n : new int[] {1, 2, 60}) {
            Edges.is("years(" + n + ") behind 9999", x.years(n), -1);
        }
        Edges.is("look(10): no DRAW more", x.look(10), state);
        Edges.is("look(4)", x.look(4), 9999);
        Edges.yes("undo()", x.undo());
        Edges.is("look(4)", x.look(4), 9998);
        Edges.is("years(2) to 10000", x.years(2), -1);
        Edges.yes("years(1) to 9999", x.years(1) >= 0);
    }

    private static void daysBounds() {
        Edges.holds("Promise 8", "DAYS go by (1 .. 60)");
        Edges.range("days(v)", 1, 60, v -> {
            PierTooFar x = new PierTooFar();
            return x.days(v) == 0 && x.look(5) == v;
        });
    }

    private static void daysHowMany() {
        Edges.holds("Promise 8", "how many came home");
        PierTooFar x = Edges.walkers(12, 1, 1, 9);
        Edges.is("days(1), all ashore", x.days(1), 0);
        for (int w = 0; w < 12; w++) {
            x.act(2, w);
        }
        Edges.is("days(1), all come home", x.days(1), 12);
        Edges.is("days(1), all ashore", x.days(1), 0);
        x = Edges.walkers(3, 2, 4, 40);
        Edges.tell(x, 0, "walks 0 when nerve=7;walks 2;");
        x.set(4, 1, 7);
        x.set(3, 2, 30);
        for (int w = 0; w < 3; w++) {
            x.act(2, w);
        }
        Edges.is("days(4), one home, one lost, one out", x.days(4), 1);
        Edges.is("look(6)", x.look(6), 1);
        Edges.is("look(7)", x.look(7), 4);
    }

    private static void daysRefused() {
        Edges.holds("Promise 8", "NONE, and nothing is done, if one can't be");
        for (int n : new int[] {LEAST, -60, -1, 0, 61, 100, MOST}) {
            Edges.is("days(" + n + ")", Edges.busy().days(n), -1);
        }
        Edges.stays("days() of a number that can't be", Edges::busy, x -> {
            x.days(0);
            x.days(61);
            x.days(-1);
        });
    }

    /**
     * DAY 99999 lies 1667 calls away, and behind 512 calls an object's answers are free; this program counts no calls,
     * so that its bound can be tried all the same.
     */
    private static void daysLast() {
        Edges.holds("Promise 8", "NONE, and nothing is done, if one can't be, or DAY would be above 99999.");
        PierTooFar x = Edges.walkers(1, 1, 9, 40);
        for (int i = 0; i < 1665; i++) {
            x.days(60);
        }
        Edges.is("days(39)", x.days(39), 0);
        Edges.is("look(5)", x.look(5), 99939);
        x.act(2, 0);
        Edges.is("days(60) to 99999", x.days(60), 1);
        Edges.is("look(5)", x.look(5), 99999);
        x.act(2, 0);
        for (int n : new int[] {1, 2, 60}) {
            Edges.is("days(" + n + ") behind 99999", x.days(n), -1);
        }
        Edges.is("look(5)", x.look(5), 99999);
        Edges.walker(x, 0, 0, 1, 9);
        x.undo();
        x.undo();
        Edges.is("look(5)", x.look(5), 99998);
        Edges.is("days(2) to 100000", x.days(2), -1);
        Edges.is("days(1) to 99999", x.days(1), 0);
    }

    private static void yearDeeds() {
        Edges.holds("Terms 3", "A YEAR: line by line of DEEDS for it: LONG is shame more");
        PierTooFar x = Edges.pier(1);
        Edges.tell(x, 0, "shame long*2+deed;");
        Edges.tell(x, 1, "in 1 deed 5 bad 99;in 0 deed 1 bad 0;in 0 deed 0 bad 0;in 2 deed 0 bad 0;");
        x.years(1);
        Edges.is("look(1): 1, then 3 more, then 8 more", x.look(1), 12);
        Edges.line(x, 0, 0, 0, 1, 3);
        Edges.line(x, 1, 0, 0, 0, 8);
        Edges.is("look(9)", x.look(9), 2);
        x.years(1);
        Edges.line(x, 2, 1, 0, 5, 20);
        x.years(1);
        Edges.line(x, 3, 2, 0, 0, 20);
        x.years(1);
        Edges.is("look(9): none for YEAR 3", x.look(9), 4);
        x = atYear(998);
        Edges.tell(x, 0, "shame 1;");
        Edges.tell(x, 1, "in 999 deed 0 bad 0;");
        x.years(1);
        Edges.is("look(1) behind 998", x.look(1), 0);
        x.years(1);
        Edges.is("look(1) behind 999", x.look(1), 1);
        x.years(1);
        Edges.is("look(1) behind 1000", x.look(1), 1);
    }

    private static void yearLong() {
        Edges.holds("Terms 3", "(200 at most; a line of THE BOOK also for no MILES)");
        PierTooFar x = Edges.pier(180);
        Edges.tell(x, 0, "shame 19;");
        Edges.tell(x, 1, "in 0 deed 1 bad 0;in 0 deed 2 bad 0;in 0 deed 3 bad 0;");
        x.years(1);
        Edges.is("look(1)", x.look(1), 200);
        Edges.line(x, 0, 0, 0, 1, 19);
        Edges.line(x, 1, 0, 0, 2, 1);
        Edges.line(x, 2, 0, 0, 3, 0);
        Edges.is("look(9)", x.look(9), 3);
        x = Edges.pier(5);
        Edges.tell(x, 0, "shame 0;");
        Edges.tell(x, 1, "in 0 deed 4 bad 99;");
        x.years(1);
        Edges.line(x, 0, 0, 0, 4, 0);
        Edges.is("look(1)", x.look(1), 5);
    }

    private static void yearParts() {
        Edges.holds("Terms 3", "Then part by part of those with a MILE below LONG (part p: MILES 20 p .. 20 p + 19)");
        for (int length : new int[] {0, 1, 19, 20, 21, 39, 40, 41, 180, 181, 199, 200}) {
            PierTooFar x = Edges.pier(length);
            Edges.tell(x, 0, "storm 1000;");
            x.years(1);
            Due.Draws draws = new Due.Draws(0);
            int broke = 0;
            for (int part = 0; part < (length + 19) / 20; part++) {
                draws.draw(1000);
                int mile = 20 * part + draws.draw(20);
                broke += mile < length ? 1 : 0;
                Edges.is("mile(" + mile + ", 0) by LONG " + length, x.mile(mile, 0), mile < length ? 1 : 0);
            }
            Edges.is("look(10) by LONG " + length, x.look(10), draws.state);
            Edges.is("look(2) by LONG " + length, x.look(2), broke);
        }
        PierTooFar x = Edges.pier(0);
        Edges.tell(x, 0, "shame 1;storm 1000;");
        Edges.tell(x, 1, "in 0 deed 0 bad 0;");
        x.years(1);
        Edges.is("look(10): the part of the MILE that is new", x.look(10), SECOND);
    }

    private static void yearStormOfNothing() {
        Edges.holds("Terms 3", "if storm is above 0 (asked), a DRAW of 1000");
        PierTooFar x = Edges.pier(20);
        Edges.tell(x, 0, "storm 0;");
        x.years(1);
        Edges.is("look(10): storm 0, no DRAW", x.look(10), 0);
        Edges.tell(x, 0, "storm 0-1;");
        x.years(1);
        Edges.is("look(10): storm below 0 is 0", x.look(10), 0);
        Edges.tell(x, 0, "storm 1;");
        x.years(1);
        Edges.is("look(10): storm 1, one DRAW", x.look(10), FIRST);
        x = Edges.pier(200);
        Edges.tell(x, 0, "storm 1 when mile=180 and year=1;storm 0;");
        x.years(1);
        Edges.is("look(10): asked of each part, none in YEAR 0", x.look(10), 0);
        x.years(1);
        Edges.is("look(10): asked of each part, the last in YEAR 1", x.look(10), FIRST);
    }

    private static void yearDraws() {
        Edges.holds("Terms 3", "below it a DRAW of 20 (always)");
        PierTooFar x = Edges.pier(20);
        Edges.tell(x, 0, "storm 563;");
        Edges.is("years(1): 563 is not below 563", x.years(1), 0);
        Edges.is("look(10): one DRAW", x.look(10), FIRST);
        Edges.is("look(2)", x.look(2), 0);
        x.state(0);
        Edges.tell(x, 0, "storm 564;");
        Edges.is("years(1): 563 is below 564", x.years(1), 1);
        Edges.is("look(10): two DRAWS", x.look(10), SECOND);
        Edges.is("mile(17, 0)", x.mile(17, 0), 1);
        x = Edges.pier(17);
        Edges.tell(x, 0, "storm 1000;");
        Edges.is("years(1): no MILE 17", x.years(1), 0);
        Edges.is("look(10): always drawn", x.look(10), SECOND);
    }

    private static void yearBreaks() {
        Edges.holds("Terms 3", "that MILE of the part, if it is below LONG and not BROKEN yet, is BROKEN");
        PierTooFar x = Edges.pier(17);
        Edges.tell(x, 0, "storm 1000;");
        Edges.is("years(1): MILE 17 by LONG 17", x.years(1), 0);
        Edges.is("look(2)", x.look(2), 0);
        Edges.is("look(9)", x.look(9), 0);
        x = Edges.pier(18);
        Edges.tell(x, 0, "storm 1000;");
        Edges.is("years(1): MILE 17 by LONG 18", x.years(1), 1);
        Edges.is("look(2)", x.look(2), 1);
        Edges.line(x, 0, 0, 1, 17, 18);
        x.state(0);
        Edges.is("years(1): BROKEN already", x.years(1), 0);
        Edges.is("look(2)", x.look(2), 1);
        Edges.is("look(9)", x.look(9), 1);
        Edges.is("look(10): drawn all the same", x.look(10), SECOND);
        x = Edges.pier(200);
        Edges.tell(x, 0, "storm 1000 when mile=180;storm 0;");
        x.years(1);
        Edges.is("mile(197, 0)", x.mile(197, 0), 1);
        Edges.line(x, 0, 0, 1, 197, 200);
    }

    private static void yearMore() {
        Edges.holds("Terms 3", "YEAR is one more.");
        PierTooFar x = Edges.pier(20);
        for (int year = 1; year <= 3; year++) {
            x.years(1);
            Edges.is("look(4)", x.look(4), year);
        }
        Edges.is("look(5): DAY is not", x.look(5), 0);
    }

    private static void daySettingOff() {
        Edges.holds("Terms 3", "A DAY: (a) line by line of SETTING for it: a WALKER ashore: OUT 1, LEFT DAYS, AT MILE 0");
        PierTooFar x = Edges.walkers(3, 2, 9, 40);
        Edges.tell(x, 0, "walks 0;");
        Edges.tell(x, 3, "on 1 2;on 0 1;on 1 0;on 0 1;");
        x.days(1);
        Edges.is("look(7) behind DAY 0", x.look(7), 2);
        Edges.is("look(9): told twice, set off once", x.look(9), 1);
        Edges.walker(x, 1, 0, 1, 8);
        Edges.line(x, 0, 0, 3, 1, 0);
        x.days(1);
        Edges.is("look(7) behind DAY 1", x.look(7), 7);
        Edges.line(x, 1, 0, 3, 2, 1);
        Edges.line(x, 2, 0, 3, 0, 1);
        Edges.walker(x, 1, 0, 1, 7);
        x = Edges.walkers(1, 2, 9, 40);
        Edges.tell(x, 3, "on 999 0;");
        for (int i = 0; i < 16; i++) {
            x.days(60);
        }
        x.days(39);
        Edges.is("look(7) behind DAY 998", x.look(7), 0);
        x.days(1);
        Edges.is("look(7) behind DAY 999", x.look(7), 1);
    }

    private static void daySettingOffNot() {
        Edges.holds("Terms 3", "if LONG is above 0 and MILE 0 is not BROKEN (else nothing)");
        String onEach = "on 0 0;on 1 0;on 2 0;";
        PierTooFar x = Edges.walkers(1, 2, 9, 0);
        Edges.tell(x, 3, onEach);
        x.days(1);
        Edges.is("look(7) by LONG 0", x.look(7), 0);
        Edges.is("look(9)", x.look(9), 0);
        Edges.walker(x, 0, -1, 0, 0);
        x.set(1, 0, 1);
        x.act(0, 0);
        x.days(1);
        Edges.is("look(7), MILE 0 being BROKEN", x.look(7), 0);
        Edges.is("look(9)", x.look(9), 1);
        x.act(1, 0);
        x.days(1);
        Edges.is("look(7) by LONG 1", x.look(7), 1);
        x = Edges.walkers(1, 2, 9, 40);
        Edges.tell(x, 3, onEach);
        x.days(2);
        Edges.walker(x, 0, 4, 1, 7);
        Edges.is("look(9): not ashore, so nothing", x.look(9), 1);
    }

    private static void dayLeft() {
        Edges.holds("Terms 3",
                "(b) WALKER by WALKER not ashore (also on the DAY on which he sets off): LEFT is one less.");
        PierTooFar x = Edges.walkers(2, 2, 30, 90);
        Edges.tell(x, 3, "on 1 1;");
        x.act(2, 0);
        Edges.walker(x, 0, 0, 1, 30);
        x.days(1);
        Edges.walker(x, 0, 2, 1, 29);
        Edges.walker(x, 1, -1, 0, 0);
        x.days(1);
        Edges.walker(x, 0, 4, 1, 28);
        Edges.walker(x, 1, 2, 1, 29);
        x = Edges.walkers(12, 1, 1, 9);
        for (int w = 11; w >= 0; w--) {
            x.act(2, w);
        }
        x.days(1);
        for (int w = 0; w < 12; w++) {
            Edges.line(x, 12 + 2 * w, 0, 4, w, 0);
            Edges.line(x, 13 + 2 * w, 0, 5, w, 0);
        }
    }

    private static void dayHalf() {
        Edges.holds("Terms 3", "If he is OUT and LEFT is not above half of DAYS (downwards), OUT is 0 (and he goes back on this DAY).");
        for (int days : new int[] {4, 5, 6, 7, 29, 30}) {
            PierTooFar x = Edges.walkers(1, 1, days, 200);
            x.act(2, 0);
            int out = days - days / 2 - 1;
            x.days(out);
            Edges.walker(x, 0, out, 1, days / 2 + 1);
            Edges.is("look(9): no line yet", x.look(9), 1);
            x.days(1);
            Edges.walker(x, 0, out - 1, 0, days / 2);
            Edges.line(x, 1, 0, 4, 0, out);
            x.days(1);
            Edges.is("look(9): one line alone", x.look(9), out == 1 ? 3 : 2);
        }
        PierTooFar x = Edges.walkers(1, 1, 2, 200);
        x.act(2, 0);
        Edges.is("days(1) by two DAYS: LEFT 1 is half of them", x.days(1), 1);
        x = Edges.walkers(1, 1, 3, 200);
        x.act(2, 0);
        Edges.is("days(1) by three DAYS: LEFT 2 is above 1", x.days(1), 0);
        Edges.walker(x, 0, 1, 1, 2);
    }

    private static void dayWalks() {
        Edges.holds("Terms 3", "He walks (asked then): MILE by MILE, out or back, so many");
        PierTooFar x = Edges.walkers(1, 3, 12, 90);
        Edges.tell(x, 0, "walks 7 when left=11 and mile=0;walks 20 when left=10 and mile=7;walks 0 when left=9;walks 4;");
        x.act(2, 0);
        x.days(1);
        Edges.walker(x, 0, 7, 1, 11);
        x.days(1);
        Edges.walker(x, 0, 27, 1, 10);
        x.days(1);
        Edges.walker(x, 0, 27, 1, 9);
        x.days(3);
        Edges.walker(x, 0, 31, 0, 6);
        x.days(1);
        Edges.walker(x, 0, 27, 0, 5);
    }

    private static void dayStays() {
        Edges.holds("Terms 3", "the next MILE is BROKEN or none: he stays and, if he was OUT, OUT is 0 (that ends his day; back: no line).");
        PierTooFar x = Edges.walkers(1, 5, 30, 5);
        x.act(2, 0);
        x.days(1);
        Edges.walker(x, 0, 4, 0, 29);
        Edges.line(x, 1, 0, 4, 0, 4);
        x = Edges.walkers(1, 4, 30, 5);
        x.act(2, 0);
        x.days(1);
        Edges.walker(x, 0, 4, 1, 29);
        x.days(1);
        Edges.walker(x, 0, 4, 0, 28);
        x.days(1);
        Edges.walker(x, 0, 0, 0, 27);
        x = Edges.walkers(1, 5, 30, 90);
        x.act(0, 3);
        x.act(2, 0);
        x.days(1);
        Edges.walker(x, 0, 2, 0, 29);
        Edges.line(x, 2, 0, 4, 0, 2);
        x = Edges.walkers(1, 5, 30, 200);
        for (int i = 0; i < 2; i++) {
            x.act(0, 1);
            x.act(2, 0);
            x.days(1);
            Edges.walker(x, 0, 0, 0, 29);
            Edges.is("days(1), from MILE 0", x.days(1), 1);
            x.act(1, 1);
        }
    }

    private static void dayStaysBack() {
        Edges.holds("Terms 3", "he stays and, if he was OUT, OUT is 0 (that ends his day; back: no line)");
        PierTooFar x = Edges.walkers(1, 4, 6, 90);
        x.act(2, 0);
        x.days(2);
        Edges.walker(x, 0, 8, 1, 4);
        x.act(0, 6);
        x.days(1);
        Edges.walker(x, 0, 7, 0, 3);
        int lines = x.look(9);
        x.days(1);
        Edges.walker(x, 0, 7, 0, 2);
        Edges.is("look(9): no line", x.look(9), lines);
        x.act(1, 6);
        x.days(1);
        Edges.walker(x, 0, 3, 0, 1);
        x = Edges.walkers(1, 4, 6, 90);
        x.act(2, 0);
        x.days(2);
        x.set(1, 0, 5);
        x.days(1);
        Edges.walker(x, 0, 8, 0, 3);
    }

    private static void dayHome() {
        Edges.holds("Terms 3",
                "Going back from MILE 0, which is one of so many, he is ashore (AT none, OUT 0, LEFT 0).");
        PierTooFar x = Edges.walkers(1, 4, 5, 90);
        x.act(2, 0);
        x.days(2);
        Edges.walker(x, 0, 8, 1, 3);
        x.days(1);
        Edges.walker(x, 0, 4, 0, 2);
        Edges.is("days(1): four of four lead to MILE 0", x.days(1), 0);
        Edges.walker(x, 0, 0, 0, 1);
        Edges.is("days(1): one more leads ashore, on the last day, too", x.days(1), 1);
        Edges.walker(x, 0, -1, 0, 0);
        Edges.is("look(6)", x.look(6), 0);
        Edges.line(x, 2, 0, 5, 0, 4);
        Edges.is("look(9)", x.look(9), 3);
        x = Edges.walkers(1, 4, 5, 90);
        x.act(2, 0);
        x.days(2);
        Edges.tell(x, 0, "walks 9;");
        Edges.is("days(1): nine of nine from MILE 8", x.days(1), 1);
        Edges.walker(x, 0, -1, 0, 0);
    }

    private static void dayLost() {
        Edges.holds("Terms 3", "At the end of the day, not ashore: is LEFT 0, he is lost: ashore, too, LOST one more.");
        PierTooFar x = Edges.walkers(2, 1, 4, 90);
        Edges.tell(x, 0, "walks 3 when left=3;walks 1;");
        x.act(2, 0);
        x.act(2, 1);
        x.days(3);
        Edges.walker(x, 0, 1, 0, 1);
        Edges.is("look(6): LEFT is 1", x.look(6), 0);
        Edges.is("days(1): back to MILE 0 only", x.days(1), 0);
        Edges.walker(x, 0, -1, 0, 0);
        Edges.is("look(6)", x.look(6), 2);
        Edges.is("look(7)", x.look(7), 0);
        Edges.line(x, 4, 0, 6, 0, 0);
        Edges.line(x, 5, 0, 6, 1, 0);
        Edges.is("days(1): nobody is lost twice", x.days(1), 0);
        Edges.is("look(6)", x.look(6), 2);
        x = Edges.walkers(1, 1, 1, 90);
        Edges.tell(x, 0, "walks 0;");
        x.act(2, 0);
        Edges.is("days(1): one day, no walk", x.days(1), 0);
        Edges.is("look(6)", x.look(6), 1);
        Edges.line(x, 1, 0, 4, 0, 0);
        Edges.line(x, 2, 0, 6, 0, 0);
    }

    private static void dayMore() {
        Edges.holds("Terms 3", "(c) DAY is one more.");
        PierTooFar x = Edges.pier(20);
        for (int day = 1; day <= 3; day++) {
            x.days(1);
            Edges.is("look(5)", x.look(5), day);
        }
        Edges.is("look(4): YEAR is not", x.look(4), 0);
        Edges.is("look(10): no DRAW", x.look(10), 0);
    }

    private static void handOwns() {
        Edges.holds("Terms 3", "By hand: to OWN to a deed (LONG shame more)");
        PierTooFar x = Edges.pier(190);
        Edges.tell(x, 0, "shame deed+bad/9;");
        Edges.is("owns(0, 8)", x.owns(0, 8), 0);
        Edges.is("owns(1, 9)", x.owns(1, 9), 2);
        Edges.is("owns(5, 99), 16, but 8 are left", x.owns(5, 99), 8);
        Edges.is("look(1)", x.look(1), 200);
        Edges.is("look(10): no DRAW", x.look(10), 0);
        Edges.is("look(4)", x.look(4), 0);
    }

    private static void handBreaks() {
        Edges.holds("Terms 3", "to BREAK a MILE below LONG");
        PierTooFar x = Edges.pier(200);
        Edges.yes("act(0, 199)", x.act(0, 199));
        Edges.yes("act(0, 0)", x.act(0, 0));
        Edges.no("act(0, 200)", x.act(0, 200));
        x.set(1, 0, 199);
        Edges.no("act(0, 199) by LONG 199", x.act(0, 199));
        Edges.yes("act(0, 198) by LONG 199", x.act(0, 198));
        Edges.is("look(2)", x.look(2), 2);
    }

    private static void handMends() {
        Edges.holds("Terms 3", "to MEND one");
        PierTooFar x = Edges.pier(200);
        x.act(0, 199);
        x.act(0, 0);
        Edges.yes("act(1, 199)", x.act(1, 199));
        Edges.is("look(2)", x.look(2), 1);
        Edges.yes("act(1, 0)", x.act(1, 0));
        Edges.is("look(2)", x.look(2), 0);
        Edges.yes("act(0, 199) once more", x.act(0, 199));
    }

    private static void handSetsOff() {
        Edges.holds("Terms 3", "to let a WALKER set off");
        PierTooFar x = Edges.walkers(12, 9, 30, 1);
        Edges.yes("act(2, 11)", x.act(2, 11));
        Edges.yes("act(2, 0)", x.act(2, 0));
        Edges.walker(x, 11, 0, 1, 30);
        Edges.walker(x, 0, 0, 1, 30);
        Edges.walker(x, 1, -1, 0, 0);
        Edges.is("look(7)", x.look(7), 2049);
        Edges.is("look(5): by hand no DAY goes by", x.look(5), 0);
    }

    private static void bookLines() {
        Edges.holds("Terms 3", "THE BOOK (150 lines; no more then)");
        PierTooFar x = Edges.walkers(1, 1, 1, 100);
        Edges.tell(x, 0, "shame 1;");
        Edges.tell(x, 1, "in 0 deed 3 bad 0;in 0 deed 4 bad 0;");
        for (int i = 0; i < 149; i++) {
            Edges.is("look(9)", x.look(9), i);
            x.act(i % 2, 5);
        }
        x.years(1);
        Edges.is("look(9)", x.look(9), 150);
        Edges.is("look(1): both deeds", x.look(1), 102);
        Edges.line(x, 149, 0, 0, 3, 1);
        Edges.line(x, 0, 0, 1, 5, 100);
        Edges.is("owns(1, 1)", x.owns(1, 1), 1);
        Edges.yes("act(0, 9)", x.act(0, 9));
        Edges.yes("act(1, 9)", x.act(1, 9));
        Edges.yes("act(2, 0)", x.act(2, 0));
        Edges.is("days(1)", x.days(1), 1);
        Edges.is("look(9)", x.look(9), 150);
        Edges.line(x, 149, 0, 0, 3, 1);
        for (int i = 0; i < 5; i++) {
            x.undo();
        }
        Edges.is("look(9): what wrote no line takes none back", x.look(9), 150);
        x.undo();
        Edges.is("look(9) ahead of the YEAR", x.look(9), 149);
        x.owns(2, 2);
        Edges.line(x, 149, 0, 0, 2, 1);
    }

    private static void bookTells() {
        Edges.holds("Terms 3", "YEAR, what (0 built, 1 broken, 2 mended, 3 set off, 4 turned back, 5 home, 6 lost),"
                + " who or which (0: the DEED; 1, 2: the MILE; else the WALKER), how much (0: how many MILES more;"
                + " 1, 2: LONG; 3, 5: DAY; 4, 6: the MILE).");
        PierTooFar x = Edges.walkers(2, 2, 4, 50);
        x.days(3);
        x.years(2);
        x.owns(4, 30);
        x.act(0, 49);
        x.owns(0, 8);
        x.act(1, 49);
        x.act(2, 1);
        x.days(3);
        Edges.tell(x, 0, "walks 0 when left<2;walks 4 when left=2;walks 6;");
        x.act(2, 0);
        x.days(4);
        Edges.line(x, 0, 2, 0, 4, 4);
        Edges.line(x, 1, 2, 1, 49, 54);
        Edges.line(x, 2, 2, 0, 0, 1);
        Edges.line(x, 3, 2, 2, 49, 55);
        Edges.line(x, 4, 2, 3, 1, 3);
        Edges.line(x, 5, 2, 4, 1, 2);
        Edges.line(x, 6, 2, 5, 1, 5);
        Edges.line(x, 7, 2, 3, 0, 6);
        Edges.line(x, 8, 2, 4, 0, 6);
        Edges.line(x, 9, 2, 6, 0, 2);
        Edges.is("look(9)", x.look(9), 10);
    }

    private static void bookAsked() {
        Edges.holds("Promise 16", "Of line i of THE BOOK what 0 YEAR, 1 what, 2 who or which, 3 how much.");
        PierTooFar x = Edges.pier(50);
        x.years(7);
        x.act(0, 31);
        x.owns(3, 99);
        Edges.line(x, 0, 7, 1, 31, 50);
        Edges.line(x, 1, 7, 0, 3, 12);
    }

    private static void bookRefused() {
        Edges.holds("Promise 16", "NONE if there is none such, or another what.");
        Edges.is("book(0, 0) of an empty BOOK", new PierTooFar().book(0, 0), -1);
        PierTooFar x = Edges.pier(50);
        for (int i = 0; i < 150; i++) {
            x.act(i % 2, 5);
            if (i == 0 || i == 74 || i == 149) {
                Edges.is("book(" + i + ", 2), the last line", x.book(i, 2), 5);
                Edges.is("book(" + (i + 1) + ", 2), the line behind it", x.book(i + 1, 2), -1);
            }
        }
        for (int i : new int[] {LEAST, -2, -1, 150, 151, MOST}) {
            Edges.is("book(" + i + ", 0)", x.book(i, 0), -1);
        }
        for (int what : Edges.others(-1, 4)) {
            Edges.is("book(0, " + what + ")", x.book(0, what), -1);
            Edges.is("book(1, " + what + ")", x.book(1, what), -1);
        }
        x.undo();
        Edges.is("book(149, 2) behind undo()", x.book(149, 2), -1);
        Edges.is("book(148, 2) behind undo()", x.book(148, 2), 5);
    }
}
