/** Promises 1 to 6, sentence by sentence: a new object, what is told, what is done by hand. */
final class EdgesOfTold {
    private static final int LEAST = Edges.LEAST;
    private static final int MOST = Edges.MOST;

    private EdgesOfTold() {
    }

    static void run() {
        newObject();
        state();
        walkerBounds();
        walkerNumbers();
        walkerRefused();
        setWind();
        setLong();
        setWalker();
        setWalkerAshore();
        setStrong();
        setRefused();
        ownsBounds();
        ownsHowMany();
        ownsRefused();
        actDone();
        actRefused();
        actBreaks();
        actMends();
        actSetsOff();
        actOther();
    }

    private static void newObject() {
        Edges.holds("Promise 1", "The shore.");
        PierTooFar x = new PierTooFar();
        for (int what = 0; what <= 15; what++) {
            Edges.is("look(" + what + ")", x.look(what), 0);
        }
        for (int m : new int[] {0, 1, 19, 20, 100, 199}) {
            for (int what = 0; what <= 4; what++) {
                Edges.is("mile(" + m + ", " + what + ")", x.mile(m, what), 0);
            }
        }
        Edges.is("fault(0)", x.fault(0), 0);
        Edges.is("fault(1)", x.fault(1), -1);
        Edges.is("of(0, 0)", x.of(0, 0), -2);
        Edges.is("book(0, 0)", x.book(0, 0), -1);
        Edges.is("next(0)", x.next(0), -1);
        Edges.is("serves(6, 0)", x.serves(6, 0), 0);
        Edges.is("said(-1, 0, 199)", x.said(-1, 0, 199), 0);
        Edges.is("ownsUp(0, 0)", x.ownsUp(0, 0), 0);
        Edges.is("prices(1)", x.prices(1), 0);
        Edges.is("reads(-1, 0)", x.reads(-1, 0), 0);
        Edges.is("strength(5, 1)", x.strength(5, 1), 1000000);
        Edges.is("strength(5, 0)", x.strength(5, 0), 0);
        Edges.is("fits(0)", x.fits(0), 176782322);
        Edges.no("end(1): the TAPE is empty", x.end(1));
        Edges.no("undo()", x.undo());
        Edges.no("image(false)", x.image(false));
    }

    private static void state() {
        Edges.holds("Promise 2", "STATE is told: what it was.");
        PierTooFar x = new PierTooFar();
        int before = 0;
        for (int v : new int[] {MOST, LEAST, -1, 0, 1, 1, 0x80000001, 0}) {
            Edges.is("state(" + v + ")", x.state(v), before);
            Edges.is("look(10)", x.look(10), v);
            before = v;
        }
        x = Edges.pier(20);
        Edges.tell(x, 0, "storm 1;");
        x.years(1);
        Edges.is("state(3) behind a DRAW", x.state(3), 1013904223);
    }

    private static void walkerBounds() {
        Edges.holds("Promise 3", "A WALKER: the number; NONE if one can't be");
        Edges.answers("walker(v, 1, 0)", 1, 9, v -> new PierTooFar().walker(v, 1, 0), v -> 0);
        Edges.answers("walker(1, v, 0)", 1, 30, v -> new PierTooFar().walker(1, v, 0), v -> 0);
        Edges.answers("walker(1, 1, v)", 0, 9, v -> new PierTooFar().walker(1, 1, v), v -> 0);
        Edges.range("walker(v, 30, 9) or NONE", 1, 9, v -> new PierTooFar().walker(v, 30, 9) != -1);
        Edges.range("walker(9, v, 9) or NONE", 1, 30, v -> new PierTooFar().walker(9, v, 9) != -1);
        Edges.range("walker(9, 30, v) or NONE", 0, 9, v -> new PierTooFar().walker(9, 30, v) != -1);
        PierTooFar x = new PierTooFar();
        x.walker(1, 30, 0);
        x.walker(9, 1, 9);
        int[][] due = {{1, 30, 0}, {9, 1, 9}};
        for (int w = 0; w < 2; w++) {
            for (int what = 0; what <= 2; what++) {
                Edges.is("of(" + w + ", " + what + ")", x.of(w, what), due[w][what]);
            }
        }
    }

    private static void walkerNumbers() {
        Edges.holds("Promise 3", "or there are twelve.");
        PierTooFar x = new PierTooFar();
        for (int w = 0; w < 12; w++) {
            Edges.is("look(0)", x.look(0), w);
            Edges.is("walker(1, 1, " + w % 10 + ")", x.walker(1, 1, w % 10), w);
        }
        Edges.is("the 13th walker", x.walker(1, 1, 1), -1);
        Edges.is("the 14th walker", x.walker(1, 1, 1), -1);
        Edges.is("look(0)", x.look(0), 12);
        for (int w = 0; w < 12; w++) {
            Edges.is("of(" + w + ", 2)", x.of(w, 2), w % 10);
        }
        Edges.is("of(12, 2)", x.of(12, 2), -2);
    }

    private static void walkerRefused() {
        Edges.holds("Promise 3", "NONE if one can't be, or there are twelve.");
        Edges.stays("walkers that can't be", Edges::busy, x -> {
            x.walker(0, 1, 1);
            x.walker(10, 1, 1);
            x.walker(1, 0, 1);
            x.walker(1, 31, 1);
            x.walker(1, 1, -1);
            x.walker(1, 1, 10);
        });
        Edges.stays("the 13th walker", () -> {
            PierTooFar x = Edges.walkers(12, 2, 9, 40);
            x.act(2, 11);
            x.owns(1, 1);
            return x;
        }, x -> x.walker(1, 1, 1));
    }

    private static void setWind() {
        Edges.holds("Promise 4", "What 0 WIND");
        Edges.range("set(0, 0, v)", 0, 9, v -> new PierTooFar().set(0, 0, v));
        PierTooFar x = new PierTooFar();
        for (int v : new int[] {9, 0, 5}) {
            Edges.yes("set(0, 0, " + v + ")", x.set(0, 0, v));
            Edges.is("look(3)", x.look(3), v);
        }
    }

    private static void setLong() {
        Edges.holds("Promise 4", "1 LONG (MILES beyond it are not BROKEN then; who not asked)");
        Edges.range("set(1, 0, v)", 0, 200, v -> new PierTooFar().set(1, 0, v));
        for (int who : new int[] {LEAST, -1, 0, 11, 12, MOST}) {
            PierTooFar x = Edges.pier(200);
            for (int m : new int[] {0, 98, 99, 100, 101, 199}) {
                x.act(0, m);
            }
            Edges.yes("set(1, " + who + ", 100)", x.set(1, who, 100));
            Edges.is("look(1)", x.look(1), 100);
            Edges.is("look(2): MILES 0, 98, 99", x.look(2), 3);
            Edges.is("mile(99, 0), the last of LONG", x.mile(99, 0), 1);
            Edges.is("mile(100, 0), the first beyond LONG", x.mile(100, 0), 0);
            Edges.yes("set(1, " + who + ", 200)", x.set(1, who, 200));
            Edges.is("mile(100, 0): it was not BROKEN then", x.mile(100, 0), 0);
            Edges.is("mile(199, 0)", x.mile(199, 0), 0);
            Edges.yes("set(1, " + who + ", 0)", x.set(1, who, 0));
            Edges.is("look(2)", x.look(2), 0);
            Edges.is("look(1)", x.look(1), 0);
        }
    }

    private static void setWalker() {
        Edges.holds("Promise 4", "2 PACE, 3 DAYS, 4 NERVE of WALKER who (ashore)");
        Edges.range("set(2, 0, v)", 1, 9, v -> Edges.walkers(1, 3, 3, 9).set(2, 0, v));
        Edges.range("set(3, 0, v)", 1, 30, v -> Edges.walkers(1, 3, 3, 9).set(3, 0, v));
        Edges.range("set(4, 0, v)", 0, 9, v -> Edges.walkers(1, 3, 3, 9).set(4, 0, v));
        for (int what = 2; what <= 4; what++) {
            int sort = what;
            Edges.range("set(" + what + ", v, 1) of five", 0, 4, v -> Edges.walkers(5, 3, 3, 9).set(sort, v, 1));
            Edges.range("set(" + what + ", v, 1) of twelve", 0, 11, v -> Edges.walkers(12, 3, 3, 9).set(sort, v, 1));
            Edges.no("set(" + what + ", 0, 1) of none", new PierTooFar().set(what, 0, 1));
            PierTooFar x = Edges.walkers(3, 3, 3, 9);
            x.set(what, 1, 7);
            for (int w = 0; w < 3; w++) {
                for (int asked = 0; asked <= 2; asked++) {
                    int due = w == 1 && asked == what - 2 ? 7 : asked == 2 ? 5 : 3;
                    Edges.is("of(" + w + ", " + asked + ") behind set(" + what + ", 1, 7)", x.of(w, asked), due);
                }
            }
        }
    }

    private static void setWalkerAshore() {
        Edges.holds("Promise 4", "of WALKER who (ashore)");
        for (int what = 2; what <= 4; what++) {
            PierTooFar x = Edges.walkers(2, 2, 4, 40);
            x.act(2, 0);
            Edges.no("set(" + what + ", 0, 6) at MILE 0", x.set(what, 0, 6));
            Edges.yes("set(" + what + ", 1, 6): the other is ashore", x.set(what, 1, 6));
            x.days(2);
            Edges.is("of(0, 3)", x.of(0, 3), 0);
            Edges.no("set(" + what + ", 0, 6) on the way back", x.set(what, 0, 6));
            Edges.is("of(0, " + (what - 2) + ")", x.of(0, what - 2), what == 2 ? 2 : what == 3 ? 4 : 5);
            x.days(1);
            Edges.yes("set(" + what + ", 0, 6) at home", x.set(what, 0, 6));
            Edges.is("of(0, " + (what - 2) + ")", x.of(0, what - 2), 6);
        }
    }

    private static void setStrong() {
        Edges.holds("Promise 4", "5 STRONG of part who (0, 1)");
        Edges.range("set(5, v, 1)", 0, 9, v -> new PierTooFar().set(5, v, 1));
        Edges.range("set(5, 9, v)", 0, 1, v -> new PierTooFar().set(5, 9, v));
        PierTooFar x = new PierTooFar();
        for (int part = 0; part < 10; part++) {
            x.set(5, part, 1);
            Edges.is("look(8)", x.look(8), (2 << part) - 1);
        }
        x.set(5, 4, 1);
        Edges.is("look(8): STRONG already", x.look(8), 1023);
        for (int part = 0; part < 10; part++) {
            x.set(5, part, 0);
            Edges.is("look(8)", x.look(8), 1023 - (2 << part) + 1);
        }
        x.set(5, 4, 0);
        Edges.is("look(8): not STRONG already", x.look(8), 0);
    }

    private static void setRefused() {
        Edges.holds("Promise 4", "true; false if one can't be, or another what.");
        for (int what : Edges.others(-1, 6)) {
            Edges.no("set(" + what + ", 0, 1)", Edges.walkers(1, 3, 3, 9).set(what, 0, 1));
        }
        Edges.stays("set() of what can't be", Edges::busy, x -> {
            x.set(0, 0, 10);
            x.set(0, 0, -1);
            x.set(1, 0, 201);
            x.set(1, 0, -1);
            x.set(2, 1, 0);
            x.set(2, 1, 10);
            x.set(2, 2, 1);
            x.set(3, 1, 0);
            x.set(3, 1, 31);
            x.set(3, -1, 1);
            x.set(4, 1, -1);
            x.set(4, 1, 10);
            x.set(4, 0, 1);
            x.set(5, 10, 1);
            x.set(5, -1, 1);
            x.set(5, 2, 2);
            x.set(5, 1, -1);
            x.set(6, 0, 1);
            x.set(-1, 0, 1);
        });
    }

    private static void ownsBounds() {
        Edges.holds("Promise 5", "To OWN to a DEED (0 .. 5) as bad as told (0 .. 99)");
        Edges.answers("owns(v, 0)", 0, 5, v -> new PierTooFar().owns(v, 0), v -> 1);
        Edges.answers("owns(0, v)", 0, 99, v -> new PierTooFar().owns(0, v), v -> v / 9 + 1);
        Edges.range("owns(v, 99) or NONE", 0, 5, v -> new PierTooFar().owns(v, 99) != -1);
        Edges.range("owns(5, v) or NONE", 0, 99, v -> new PierTooFar().owns(5, v) != -1);
    }

    private static void ownsHowMany() {
        Edges.holds("Promise 5", "how many MILES more");
        PierTooFar x = Edges.pier(187);
        Edges.is("owns(0, 99), twelve MILES", x.owns(0, 99), 12);
        Edges.is("look(1)", x.look(1), 199);
        Edges.is("owns(0, 99) at LONG 199", x.owns(0, 99), 1);
        Edges.is("look(1)", x.look(1), 200);
        Edges.is("owns(0, 99) at LONG 200", x.owns(0, 99), 0);
        Edges.is("look(1)", x.look(1), 200);
        Edges.is("look(9)", x.look(9), 3);
        Edges.is("look(15)", x.look(15), 3);
        x = Edges.pier(3);
        Edges.tell(x, 0, "shame 0;");
        Edges.is("owns(5, 99), shame being 0", x.owns(5, 99), 0);
        Edges.is("look(9)", x.look(9), 1);
    }

    private static void ownsRefused() {
        Edges.holds("Promise 5", "NONE if one can't be.");
        Edges.stays("owns() of what can't be", Edges::busy, x -> {
            x.owns(6, 0);
            x.owns(-1, 0);
            x.owns(0, 100);
            x.owns(0, -1);
        });
    }

    private static void actDone() {
        Edges.holds("Promise 6", "What 0 to BREAK, 1 to MEND a MILE, 2 to let a WALKER set off: true");
        PierTooFar x = Edges.walkers(2, 3, 9, 200);
        Edges.yes("act(0, 199)", x.act(0, 199));
        Edges.yes("act(0, 0)", x.act(0, 0));
        Edges.is("mile(199, 0)", x.mile(199, 0), 1);
        Edges.is("look(2)", x.look(2), 2);
        Edges.yes("act(1, 0)", x.act(1, 0));
        Edges.yes("act(1, 199)", x.act(1, 199));
        Edges.is("look(2)", x.look(2), 0);
        Edges.yes("act(2, 1)", x.act(2, 1));
        Edges.is("look(7)", x.look(7), 2);
        Edges.is("look(9)", x.look(9), 5);
    }

    private static void actRefused() {
        Edges.holds("Promise 6", "false if it can't be (beyond LONG; so already; not ashore, no MILE 0)");
        Edges.stays("act() of what can't be", Edges::busy, x -> {
            x.act(0, 70);
            x.act(0, 40);
            x.act(0, -1);
            x.act(1, 39);
            x.act(1, 70);
            x.act(1, -1);
            x.act(2, 0);
            x.act(2, 2);
            x.act(2, -1);
            x.act(3, 1);
            x.act(-1, 1);
        });
        Edges.stays("act(2, 0) without a pier", () -> Edges.walkers(1, 3, 3, 0), x -> x.act(2, 0));
    }

    private static void actBreaks() {
        Edges.holds("Promise 6", "What 0 to BREAK");
        Edges.range("act(0, v) by LONG 50", 0, 49, v -> Edges.pier(50).act(0, v));
        Edges.range("act(0, v) by LONG 200", 0, 199, v -> Edges.pier(200).act(0, v));
        Edges.no("act(0, 0) by LONG 0", Edges.pier(0).act(0, 0));
        PierTooFar x = Edges.pier(50);
        Edges.yes("act(0, 7)", x.act(0, 7));
        Edges.no("act(0, 7) again", x.act(0, 7));
        Edges.is("look(9): no line of it", x.look(9), 1);
    }

    private static void actMends() {
        Edges.holds("Promise 6", "1 to MEND a MILE");
        PierTooFar x = Edges.pier(50);
        Edges.no("act(1, 7): not BROKEN", x.act(1, 7));
        Edges.is("look(9): no line of it", x.look(9), 0);
        x.act(0, 49);
        x.act(0, 7);
        for (int m : new int[] {LEAST, -1, 0, 6, 8, 48, 50, 199, 200, MOST}) {
            Edges.no("act(1, " + m + ")", x.act(1, m));
        }
        Edges.yes("act(1, 49)", x.act(1, 49));
        Edges.yes("act(1, 7)", x.act(1, 7));
        Edges.no("act(1, 7) again", x.act(1, 7));
        Edges.is("look(9)", x.look(9), 4);
    }

    private static void actSetsOff() {
        Edges.holds("Promise 6", "2 to let a WALKER set off");
        Edges.range("act(2, v) of twelve", 0, 11, v -> Edges.walkers(12, 3, 3, 1).act(2, v));
        Edges.range("act(2, v) of five", 0, 4, v -> Edges.walkers(5, 3, 3, 1).act(2, v));
        PierTooFar x = Edges.walkers(2, 1, 4, 0);
        Edges.no("act(2, 0) by LONG 0", x.act(2, 0));
        x.set(1, 0, 1);
        x.act(0, 0);
        Edges.no("act(2, 0), MILE 0 being BROKEN", x.act(2, 0));
        x.act(1, 0);
        Edges.yes("act(2, 0) by LONG 1", x.act(2, 0));
        Edges.no("act(2, 0) at MILE 0", x.act(2, 0));
        x.act(0, 0);
        Edges.no("act(2, 1), MILE 0 being BROKEN", x.act(2, 1));
        x.act(1, 0);
        Edges.is("days(2)", x.days(2), 1);
        Edges.yes("act(2, 0) once more", x.act(2, 0));
    }

    private static void actOther() {
        Edges.holds("Promise 6", "or another what.");
        for (int what : Edges.others(-1, 3)) {
            PierTooFar x = Edges.walkers(2, 3, 3, 9);
            Edges.no("act(" + what + ", 1)", x.act(what, 1));
            Edges.is("look(15)", x.look(15), 0);
            Edges.is("look(9)", x.look(9), 0);
        }
    }
}
