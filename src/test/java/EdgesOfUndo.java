import java.util.function.Consumer;

/** Promises 38 to 40 and their Terms, sentence by sentence: UNDO, THE IMAGE, what is looked at. */
final class EdgesOfUndo {
    private EdgesOfUndo() {
    }

    static void run() {
        undoNothing();
        undoEachSort();
        undoYearsAndDays();
        undoSix();
        undoForgets();
        undoRefusedForgetsNothing();
        undoKeeps();
        imageNone();
        imageHoldsAll();
        imageHoldsTheBook();
        imageHoldsWalkers();
        imageHoldsThePier();
        imageHoldsTexts();
        imageHoldsWhatIsThought();
        imageNotTheTape();
        imageNothingToUndo();
        imageAgain();
        look();
        lookOther();
        lookState();
    }

    private static void undoNothing() {
        Edges.holds("Promise 38", "UNDO: true; false if there is nothing.");
        Edges.no("undo() of a new object", new PierTooFar().undo());
        PierTooFar x = Edges.pier(9);
        x.act(0, 3);
        Edges.yes("undo()", x.undo());
        Edges.no("undo() once more", x.undo());
        Edges.is("look(1)", x.look(1), 9);
        Edges.stays("undo() of nothing", () -> {
            PierTooFar y = Edges.busy();
            y.set(0, 0, 1);
            return y;
        }, y -> y.undo());
    }

    private static void undoEachSort() {
        Edges.holds("Terms 4", "UNDO: the latest YEAR, DAY, OWNING, BREAKING, MENDING, setting off not undone yet goes back (STATE, THE BOOK, too)");
        undoOne("YEAR", x -> x.years(1));
        undoOne("DAY", x -> x.days(1));
        undoOne("OWNING", x -> x.owns(1, 30));
        undoOne("BREAKING", x -> x.act(0, 5));
        undoOne("MENDING", x -> x.act(1, 40));
        undoOne("setting off", x -> x.act(2, 1));
        PierTooFar x = Edges.pier(100);
        Edges.tell(x, 0, "storm 1000;");
        x.years(1);
        Edges.is("look(10) behind a YEAR", x.look(10) == 0 ? 1 : 0, 0);
        x.undo();
        Edges.is("look(10): STATE, too", x.look(10), 0);
        Edges.is("look(9): THE BOOK, too", x.look(9), 0);
        Edges.is("look(2)", x.look(2), 0);
        Edges.is("look(4)", x.look(4), 0);
    }

    private static void undoOne(String sort, Consumer<PierTooFar> done) {
        Edges.stays(sort + " and undo()", Edges::busyWithTwo, x -> {
            done.accept(x);
            Edges.yes("undo() of " + sort, x.undo());
        });
        PierTooFar x = Edges.busyWithTwo();
        long before = Due.seen(x);
        done.accept(x);
        Edges.is("look(15) behind " + sort, x.look(15), 3);
        Edges.yes(sort + " is seen", Due.seen(x) != before);
    }

    private static void undoYearsAndDays() {
        Edges.holds("Terms 4", "the latest YEAR, DAY");
        PierTooFar x = new PierTooFar();
        x.years(2);
        Edges.is("look(15) behind years(2)", x.look(15), 2);
        x.days(3);
        Edges.is("look(15) behind days(3)", x.look(15), 5);
        for (int day = 2; day >= 0; day--) {
            Edges.yes("undo()", x.undo());
            Edges.is("look(5)", x.look(5), day);
            Edges.is("look(4)", x.look(4), 2);
        }
        for (int year = 1; year >= 0; year--) {
            Edges.yes("undo()", x.undo());
            Edges.is("look(4)", x.look(4), year);
        }
        Edges.no("undo()", x.undo());
    }

    private static void undoSix() {
        Edges.holds("Terms 4", "6 are kept");
        for (int done : new int[] {5, 6, 7, 13}) {
            PierTooFar x = Edges.pier(100);
            for (int m = 0; m < done; m++) {
                x.act(0, m);
                Edges.is("look(15)", x.look(15), Math.min(6, m + 1));
            }
            for (int kept = Math.min(6, done) - 1; kept >= 0; kept--) {
                Edges.yes("undo() behind " + done, x.undo());
                Edges.is("look(15)", x.look(15), kept);
                Edges.is("look(2)", x.look(2), done - Math.min(6, done) + kept);
            }
            Edges.no("undo() beyond what is kept", x.undo());
            Edges.is("look(2)", x.look(2), Math.max(0, done - 6));
        }
        PierTooFar x = new PierTooFar();
        x.years(60);
        for (int i = 1; i <= 6; i++) {
            Edges.yes("undo() behind years(60)", x.undo());
            Edges.is("look(4)", x.look(4), 60 - i);
        }
        Edges.no("the seventh undo()", x.undo());
        x.days(4);
        x.undo();
        x.undo();
        x.days(5);
        Edges.is("look(15): two and five, so six", x.look(15), 6);
        for (int day = 6; day >= 1; day--) {
            Edges.yes("undo()", x.undo());
            Edges.is("look(5)", x.look(5), day);
        }
        Edges.no("undo()", x.undo());
    }

    private static void undoForgets() {
        Edges.holds("Terms 4", "whatever else is told but THE LAW, PLACES and what is told for thought"
                + " (WANTS, sites, TALK, DID, SHAMES, PRICES, LAMPS, odds) (the taking of THE IMAGE does not) forgets them.");
        forgets("state(0)", x -> x.state(0));
        forgets("state() of what it is", x -> x.state(x.look(10)));
        forgets("walker(1, 1, 1)", x -> x.walker(1, 1, 1));
        forgets("set(0, 0, 3), WIND as it is", x -> x.set(0, 0, 3));
        forgets("set(1, 0, 80)", x -> x.set(1, 0, 80));
        forgets("set(2, 1, 1)", x -> x.set(2, 1, 1));
        forgets("set(3, 1, 1)", x -> x.set(3, 1, 1));
        forgets("set(4, 1, 1)", x -> x.set(4, 1, 1));
        forgets("set(5, 1, 0)", x -> x.set(5, 1, 0));
        forgets("DEEDS", x -> Edges.tell(x, 1, "in 0 deed 0 bad 0;"));
        forgets("DEEDS without a line", x -> Edges.tell(x, 1, ""));
        forgets("SETTING", x -> Edges.tell(x, 3, "on 0 0;"));
        forgets("SETTING without a line", x -> Edges.tell(x, 3, ""));
    }

    private static void forgets(String told, Consumer<PierTooFar> telling) {
        PierTooFar x = Edges.busyWithTwo();
        Edges.is("look(15) ahead of " + told, x.look(15), 2);
        telling.accept(x);
        Edges.is("look(15) behind " + told, x.look(15), 0);
        Edges.no("undo() behind " + told, x.undo());
        x.act(0, 11);
        Edges.is("look(15) behind " + told + " and BREAKING", x.look(15), 1);
        Edges.yes("undo() behind " + told + " and BREAKING", x.undo());
        Edges.no("undo() once more", x.undo());
    }

    private static void undoRefusedForgetsNothing() {
        Edges.holds("Terms 4", "whatever else is told");
        keeps("DEEDS with a FAULT", x -> Edges.tell(x, 1, "in 0 deed 0 bad 0;in"));
        keeps("SETTING with a FAULT", x -> Edges.tell(x, 3, "on 0 9;"));
        keeps("no such text", x -> Edges.tell(x, 4, "on 0 0;"));
        keeps("walker(0, 1, 1)", x -> x.walker(0, 1, 1));
        keeps("set(0, 0, 10)", x -> x.set(0, 0, 10));
        keeps("set(1, 0, 201)", x -> x.set(1, 0, 201));
        keeps("set(2, 0, 1) of one who is out", x -> x.set(2, 0, 1));
        keeps("set(5, 10, 1)", x -> x.set(5, 10, 1));
        keeps("set(6, 0, 0)", x -> x.set(6, 0, 0));
        keeps("image(false) without one", x -> x.image(false));
    }

    private static void keeps(String told, Consumer<PierTooFar> telling) {
        PierTooFar x = Edges.busyWithTwo();
        telling.accept(x);
        Edges.is("look(15) behind " + told, x.look(15), 2);
        Edges.yes("undo() behind " + told, x.undo());
        Edges.yes("undo() once more behind " + told, x.undo());
        Edges.is("look(5) behind " + told, x.look(5), 0);
    }

    private static void undoKeeps() {
        Edges.holds("Terms 4", "THE LAW, PLACES and what is told for thought (WANTS, sites, TALK, DID, SHAMES, PRICES, LAMPS, odds)");
        keeps("THE LAW", x -> Edges.tell(x, 0, "storm 1;"));
        keeps("PLACES", x -> Edges.tell(x, 2, "bed 1;"));
        keeps("a WANT", x -> x.want(0, 1));
        keeps("no WANTS", x -> x.want(0, -1));
        keeps("a site", x -> x.want(1, 1));
        keeps("no sites", x -> x.want(1, -1));
        keeps("TALK", x -> x.talk(1, 1, 1));
        keeps("no TALK", x -> x.talk(1, 1, -1));
        keeps("DID", x -> x.did(1, 1));
        keeps("no DID", x -> x.did(-1, 1));
        keeps("SHAMES", x -> x.deed(1, 1));
        keeps("no SHAMES", x -> x.deed(-1, 1));
        keeps("PRICES", x -> x.price(1));
        keeps("no PRICES", x -> x.price(-1));
        keeps("LAMPS", x -> x.lamp(1, 2, 1));
        keeps("odds", x -> x.odds(1, 1));
        keeps("the taking of THE IMAGE", x -> x.image(true));
        keeps("the TAPE", x -> {
            x.feed(1, 2, 3, 4, 5);
            x.end(3);
        });
        PierTooFar x = Edges.busyWithTwo();
        Edges.tell(x, 0, "storm 77;");
        Edges.tell(x, 2, "bed 33;");
        x.price(50);
        x.undo();
        x.undo();
        Edges.is("mile(0, 4): THE LAW does not go back", x.mile(0, 4), 77);
        Edges.is("mile(33, 2): PLACES do not", x.mile(33, 2), 1);
        Edges.is("prices(1): PRICES do not", x.prices(1), 50);
    }

    private static void imageNone() {
        Edges.holds("Promise 39", "THE IMAGE is taken (true), or gone back to (false): true; false if there is none.");
        PierTooFar x = Edges.pier(9);
        Edges.no("image(false) without one", x.image(false));
        Edges.is("look(1)", x.look(1), 9);
        Edges.yes("image(true)", x.image(true));
        x.set(1, 0, 8);
        Edges.yes("image(false)", x.image(false));
        Edges.is("look(1)", x.look(1), 9);
        Edges.yes("image(true) once more", x.image(true));
        Edges.stays("image(false) without one", Edges::busy, y -> y.image(false));
        Edges.stays("image(true)", Edges::busy, y -> y.image(true));
    }

    private static void imageHoldsAll() {
        Edges.holds("Terms 4", "THE IMAGE: all that is and was told");
        PierTooFar x = Edges.busy();
        x.years(1);
        x.image(true);
        x.state(1);
        x.walker(9, 30, 9);
        x.set(0, 0, 9);
        x.set(1, 0, 200);
        x.set(2, 1, 9);
        x.set(3, 1, 30);
        x.set(4, 1, 0);
        x.set(5, 1, 0);
        x.set(5, 8, 1);
        for (int k = 0; k <= 3; k++) {
            Edges.tell(x, k, "");
        }
        x.want(0, -1);
        x.want(1, -1);
        x.talk(0, 0, -1);
        x.did(-1, 0);
        x.deed(-1, 0);
        x.price(-1);
        x.lamp(1, 0, 0);
        x.lamp(2, 0, 0);
        x.lamp(3, 1, 0);
        x.odds(4, 0);
        x.odds(7, 100);
        x.act(1, 40);
        x.act(0, 5);
        x.act(2, 1);
        x.owns(1, 1);
        x.years(3);
        x.days(40);
        x.image(false);
        PierTooFar y = Edges.busy();
        y.years(1);
        y.image(true);
        y.image(false);
        Edges.is("what is seen", Due.seen(x), Due.seen(y));
        Edges.is("what is thought", Due.thought(x), Due.thought(y));
        Edges.is("years(3) from there on", x.years(3), y.years(3));
        Edges.is("days(9) from there on", x.days(9), y.days(9));
        Edges.is("what is seen then", Due.seen(x), Due.seen(y));
    }

    private static void imageHoldsTheBook() {
        Edges.holds("Terms 4", "THE IMAGE: all that is and was told");
        PierTooFar x = Edges.pier(100);
        for (int m = 1; m <= 3; m++) {
            x.act(0, m);
        }
        x.image(true);
        for (int i = 0; i < 3; i++) {
            x.undo();
        }
        for (int deed = 1; deed <= 4; deed++) {
            x.owns(deed, 99);
        }
        for (int again = 0; again < 2; again++) {
            x.image(false);
            Edges.is("look(9)", x.look(9), 3);
            for (int m = 1; m <= 3; m++) {
                Edges.line(x, m - 1, 0, 1, m, 100);
            }
            x.years(9);
            x.owns(5, 0);
        }
        x = Edges.pier(100);
        for (int i = 0; i < 150; i++) {
            x.act(i % 2, 50 + i / 2 % 50);
        }
        x.image(true);
        for (int i = 0; i < 6; i++) {
            x.undo();
        }
        for (int i = 0; i < 6; i++) {
            x.owns(1, 1);
        }
        x.image(false);
        for (int i = 140; i < 150; i++) {
            Edges.line(x, i, 0, i % 2 + 1, 50 + i / 2 % 50, 100);
        }
        Edges.is("look(9)", x.look(9), 150);
    }

    private static void imageHoldsWalkers() {
        Edges.holds("Terms 4", "THE IMAGE: all that is and was told");
        PierTooFar x = Edges.pier(60);
        for (int w = 0; w < 12; w++) {
            x.walker(1 + w % 9, 30 - w, w % 10);
            if (w % 3 == 0) {
                x.act(2, w);
            }
        }
        x.days(2);
        int[] before = new int[12 * 7];
        for (int i = 0; i < before.length; i++) {
            before[i] = x.of(i / 7, i % 7);
        }
        x.image(true);
        for (int again = 0; again < 2; again++) {
            x.days(30);
            for (int w = 0; w < 12; w++) {
                x.set(2, w, 9 - w % 9);
                x.set(3, w, 1 + w);
                x.set(4, w, 9 - w % 10);
                x.act(2, w);
            }
            x.image(false);
            for (int i = 0; i < before.length; i++) {
                Edges.is("of(" + i / 7 + ", " + i % 7 + ")", x.of(i / 7, i % 7), before[i]);
            }
        }
        PierTooFar one = Edges.walkers(1, 1, 1, 9);
        one.image(true);
        one.walker(1, 1, 1);
        one.image(false);
        Edges.is("look(0)", one.look(0), 1);
        Edges.is("walker(2, 2, 2)", one.walker(2, 2, 2), 1);
    }

    private static void imageHoldsThePier() {
        Edges.holds("Terms 4", "THE IMAGE: all that is and was told");
        PierTooFar x = Edges.pier(200);
        Edges.tell(x, 0, "walks 0;");
        x.walker(1, 1, 0);
        x.act(2, 0);
        x.days(5);
        x.years(4);
        x.state(-5);
        x.set(0, 0, 6);
        x.set(5, 0, 1);
        x.set(5, 9, 1);
        x.act(0, 0);
        x.act(0, 199);
        x.act(0, 100);
        x.image(true);
        int[] due = {1, 200, 3, 6, 4, 5, 1, 0, 513, 6, -5, 1, 0, 0, 0, 0};
        for (int again = 0; again < 2; again++) {
            x.state(5);
            x.set(0, 0, 0);
            x.set(5, 0, 0);
            x.set(5, 5, 1);
            x.act(1, 0);
            x.act(0, 1);
            x.act(1, 199);
            x.act(2, 0);
            x.days(3);
            x.set(1, 0, 99);
            x.years(1);
            x.image(false);
            for (int what = 0; what <= 15; what++) {
                Edges.is("look(" + what + ")", x.look(what), due[what]);
            }
            for (int m = 0; m < 200; m++) {
                Edges.is("mile(" + m + ", 0)", x.mile(m, 0), m == 0 || m == 100 || m == 199 ? 1 : 0);
            }
        }
    }

    private static void imageHoldsTexts() {
        Edges.holds("Terms 4", "THE IMAGE: all that is and was told");
        String[] first = {"storm mile+1 when 1<2;", "in 0 deed 1 bad 27;", "kiosk 3;bed 4;", "on 0 1;on 9 0;on 9 1;"};
        String[] other = {"storm 9*9/2 when 2>1 and not 1=2;storm 7;", "in 0 deed 2 bad 9;in 0 deed 2 bad 9;", "bed 3;lamp 4;", ""};
        PierTooFar x = Edges.walkers(2, 1, 9, 20);
        for (int k = 0; k <= 3; k++) {
            Edges.tell(x, k, first[k]);
        }
        x.image(true);
        for (int again = 0; again < 2; again++) {
            for (int k = 0; k <= 3; k++) {
                Edges.tell(x, k, other[k]);
            }
            Edges.is("mile(20, 4) ahead", x.mile(20, 4), 40);
            x.image(false);
            Edges.is("mile(20, 4): THE LAW", x.mile(20, 4), 21);
            Edges.is("look(11)", x.look(11), 1);
            Edges.is("mile(3, 1): PLACES", x.mile(3, 1), 1);
            Edges.is("mile(3, 2): PLACES", x.mile(3, 2), 0);
            Edges.is("mile(4, 2): PLACES", x.mile(4, 2), 1);
            Edges.is("look(12)", x.look(12), 1);
            Edges.is("look(13)", x.look(13), 2);
            Edges.is("look(14)", x.look(14), 3);
            x.days(1);
            Edges.is("look(7): SETTING", x.look(7), 2);
            Edges.is("goes(1, 0): DEEDS", x.goes(1, 0), 24);
        }
    }

    private static void imageHoldsWhatIsThought() {
        Edges.holds("Terms 4", "THE IMAGE: all that is and was told");
        for (int i = 0; i < 10; i++) {
            PierTooFar x = new PierTooFar();
            int word = i % 8;
            x.odds(i, 40);
            x.lamp(word, 3, 5);
            x.want(0, 100);
            x.want(0, 110);
            x.want(0, 150);
            x.want(1, 105);
            x.want(1, 70);
            x.talk(i, 9 - i, 7);
            x.did(0, 18);
            x.deed(30 + i, 9);
            x.price(50);
            x.price(40 + i);
            x.image(true);
            for (int again = 0; again < 2; again++) {
                x.odds(i, 0);
                x.odds(9 - i, 7);
                x.lamp(word, again * 3, 0);
                x.lamp(7 - word, 1, 1);
                for (int what = 0; what <= 1; what++) {
                    x.want(what, -1);
                    x.want(what, 3);
                }
                x.talk(i, i, 0);
                x.did(1, 20);
                x.deed(-1, 0);
                x.deed(0, 0);
                x.price(-1);
                x.price(60);
                x.image(false);
                Edges.is("strength(0, 1): odds of part " + i, x.strength(0, 1), 600000);
                Edges.is("reads(3, 5): the code of WORD " + word, x.reads(3, 5), 1);
                Edges.is("reads(1, 1): the code of WORD " + (7 - word), x.reads(1, 1), 0);
                Edges.is("reads(3, 0)", x.reads(3, 0), 0);
                Edges.is("serves(6, 0): WANTS and sites", x.serves(6, 0), 2);
                Edges.is("serves(6, 1): sites", x.serves(6, 1), 1);
                Edges.is("want(0, 4)", x.want(0, 4), 4);
                Edges.is("want(1, 4)", x.want(1, 4), 3);
                Edges.is("said(" + i + ", 7, 0): TALK", x.said(i, 7, 0), 9 - i);
                Edges.is("fits(0): DID", x.fits(0), 362797056);
                Edges.is("ownsUp(8, 0): SHAMES", x.ownsUp(8, 0), 30 + i);
                Edges.is("prices(0): PRICES", x.prices(0), 10 - i);
            }
        }
    }

    private static void imageNotTheTape() {
        Edges.holds("Terms 4", "but the TAPE, fault()");
        PierTooFar x = Edges.pier(9);
        Edges.tell(x, 0, "storm 1/0;");
        Due.feed(x, "storm 7;");
        x.image(true);
        x.end(0);
        Edges.tell(x, 0, "storm");
        Due.feed(x, "storm 8; storm 9;");
        x.image(false);
        Edges.is("fault(0), not as it was", x.fault(0), 1);
        Edges.is("fault(1), not as it was", x.fault(1), 5);
        Edges.no("end(18): the TAPE, not as it was", x.end(18));
        Edges.is("text(0)", x.text(0), 2);
        Edges.is("mile(0, 4)", x.mile(0, 4), 8);
    }

    private static void imageNothingToUndo() {
        Edges.holds("Terms 4", "and what can be undone (nothing then), as it was when it was taken");
        PierTooFar x = Edges.pier(20);
        x.act(0, 1);
        x.act(0, 2);
        x.image(true);
        Edges.is("look(15) behind the taking", x.look(15), 2);
        x.act(0, 3);
        Edges.is("look(15)", x.look(15), 3);
        x.image(false);
        Edges.is("look(15) behind going back", x.look(15), 0);
        Edges.no("undo()", x.undo());
        Edges.is("look(2): as it was when it was taken", x.look(2), 2);
        x.act(0, 4);
        Edges.yes("undo()", x.undo());
        Edges.no("undo()", x.undo());
        Edges.is("look(2)", x.look(2), 2);
    }

    private static void imageAgain() {
        Edges.holds("Terms 4", "gone back to it may be more than once.");
        PierTooFar x = Edges.pier(20);
        x.image(true);
        for (int i = 0; i < 4; i++) {
            x.act(0, i);
            x.owns(1, 90);
            x.years(1);
            Edges.yes("image(false)", x.image(false));
            Edges.is("look(1)", x.look(1), 20);
            Edges.is("look(2)", x.look(2), 0);
            Edges.is("look(4)", x.look(4), 0);
            Edges.is("look(9)", x.look(9), 0);
        }
        x.act(0, 7);
        x.image(true);
        x.act(1, 7);
        for (int i = 0; i < 2; i++) {
            Edges.yes("image(false)", x.image(false));
            Edges.is("mile(7, 0): the later IMAGE", x.mile(7, 0), 1);
        }
    }

    private static void look() {
        Edges.holds("Promise 40", "What 0 WALKERS, 1 LONG, 2 how many BROKEN, 3 WIND, 4 YEAR, 5 DAY, 6 LOST, 7 those not ashore (a set),"
                + " 8 STRONG (a set), 9 lines of THE BOOK, 10 STATE, 11 lines of THE LAW, 12 of DEEDS, 13 of PLACES,"
                + " 14 of SETTING, 15 what can be undone.");
        PierTooFar x = new PierTooFar();
        x.walker(3, 2, 4);
        x.walker(2, 9, 6);
        x.walker(2, 9, 6);
        x.set(0, 0, 3);
        x.set(5, 1, 1);
        x.set(5, 3, 1);
        x.set(1, 0, 70);
        Edges.tell(x, 0, "walks 0;storm 0;");
        Edges.tell(x, 1, Edges.times("in 9 deed 2 bad 30;", 5));
        Edges.tell(x, 2, "kiosk 5;bed 8;lamp 9;");
        Edges.tell(x, 3, "on 0 0;on 0 1;on 0 2;on 9 0;");
        x.years(7);
        x.days(2);
        x.state(-77);
        x.act(0, 1);
        x.act(0, 2);
        int[] due = {3, 70, 2, 3, 7, 2, 1, 6, 10, 7, -77, 2, 5, 3, 4, 2};
        for (int what = 0; what <= 15; what++) {
            Edges.is("look(" + what + ")", x.look(what), due[what]);
        }
    }

    private static void lookOther() {
        Edges.holds("Promise 40", "NONE for another what.");
        PierTooFar x = Edges.busy();
        for (int what : Edges.others(-1, 16)) {
            Edges.is("look(" + what + ")", x.look(what), -1);
        }
    }

    private static void lookState() {
        Edges.holds("Promise 40", "(STATE as it is.)");
        PierTooFar x = new PierTooFar();
        for (int v : new int[] {-1, Edges.LEAST, Edges.MOST, 0}) {
            x.state(v);
            Edges.is("look(10)", x.look(10), v);
        }
    }
}
