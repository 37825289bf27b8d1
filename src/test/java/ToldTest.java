/** Promises 1 to 6: a new object and what is told or done by hand. */
public final class ToldTest {
    private static final Due DUE = new Due("ToldTest");

    public static void main(String[] args) {
        newObject();
        constants();
        state();
        walker();
        set();
        setWalker();
        setLong();
        owns();
        ownsAtTheEnd();
        breakAndMend();
        setOff();
        refusedChangesNothing();
        DUE.close();
    }

    private static void newObject() {
        DUE.promise(1);
        PierTooFar x = new PierTooFar();
        for (int what = 0; what <= 15; what++) {
            DUE.is("look(" + what + ")", x.look(what), 0);
        }
        DUE.is("fault(0)", x.fault(0), 0);
        DUE.is("fault(1)", x.fault(1), -1);
        DUE.is("of(0, 0)", x.of(0, 0), -2);
        DUE.is("book(0, 0)", x.book(0, 0), -1);
        DUE.is("mile(0, 0)", x.mile(0, 0), 0);
        DUE.is("mile(199, 4)", x.mile(199, 4), 0);
        DUE.is("reads(1, 0)", x.reads(1, 0), 0);
        DUE.is("strength(5, 1)", x.strength(5, 1), 1000000);
        DUE.is("game(0)", x.game(0), -1);
        DUE.no("undo()", x.undo());
        DUE.no("image(false)", x.image(false));
        DUE.is("text(0)", x.text(0), 0);
    }

    private static void constants() {
        DUE.promise(1);
        DUE.is("NONE", PierTooFar.NONE, -1);
    }

    private static void state() {
        DUE.promise(2);
        PierTooFar x = new PierTooFar();
        DUE.is("state(7)", x.state(7), 0);
        DUE.is("state(-2147483648)", x.state(Integer.MIN_VALUE), 7);
        DUE.is("look(10)", x.look(10), Integer.MIN_VALUE);
        DUE.is("state(0)", x.state(0), Integer.MIN_VALUE);
        x.owns(0, 0);
        DUE.is("look(15)", x.look(15), 1);
        x.state(0);
        DUE.is("look(15) behind state()", x.look(15), 0);
        DUE.is("look(1)", x.look(1), 1);
    }

    private static void walker() {
        DUE.promise(3);
        PierTooFar x = new PierTooFar();
        DUE.is("walker(0, 1, 0)", x.walker(0, 1, 0), -1);
        DUE.is("walker(10, 1, 0)", x.walker(10, 1, 0), -1);
        DUE.is("walker(1, 0, 0)", x.walker(1, 0, 0), -1);
        DUE.is("walker(1, 31, 0)", x.walker(1, 31, 0), -1);
        DUE.is("walker(1, 1, -1)", x.walker(1, 1, -1), -1);
        DUE.is("walker(1, 1, 10)", x.walker(1, 1, 10), -1);
        DUE.is("look(0)", x.look(0), 0);
        DUE.is("walker(1, 1, 0)", x.walker(1, 1, 0), 0);
        DUE.is("walker(9, 30, 9)", x.walker(9, 30, 9), 1);
        DUE.is("of(1, 0)", x.of(1, 0), 9);
        DUE.is("of(1, 1)", x.of(1, 1), 30);
        DUE.is("of(1, 2)", x.of(1, 2), 9);
        DUE.is("of(1, 3)", x.of(1, 3), -1);
        for (int w = 2; w < 12; w++) {
            DUE.is("walker(2, 3, 4)", x.walker(2, 3, 4), w);
        }
        x.owns(0, 0);
        DUE.is("the 13th walker", x.walker(2, 3, 4), -1);
        DUE.is("look(0)", x.look(0), 12);
        DUE.is("look(15) behind a refused walker", x.look(15), 1);
        PierTooFar y = new PierTooFar();
        y.owns(0, 0);
        y.walker(1, 1, 1);
        DUE.is("look(15) behind walker()", y.look(15), 0);
    }

    private static void set() {
        DUE.promise(4);
        PierTooFar x = new PierTooFar();
        DUE.yes("set(0, 0, 9)", x.set(0, 0, 9));
        DUE.yes("set(0, -5, 8)", x.set(0, -5, 8));
        DUE.is("look(3)", x.look(3), 8);
        DUE.no("set(0, 0, 10)", x.set(0, 0, 10));
        DUE.no("set(0, 0, -1)", x.set(0, 0, -1));
        DUE.is("look(3)", x.look(3), 8);
        DUE.yes("set(0, 0, 0)", x.set(0, 0, 0));
        DUE.yes("set(5, 0, 1)", x.set(5, 0, 1));
        DUE.yes("set(5, 9, 1)", x.set(5, 9, 1));
        DUE.yes("set(5, 9, 1) again", x.set(5, 9, 1));
        DUE.is("look(8)", x.look(8), 513);
        DUE.yes("set(5, 0, 0)", x.set(5, 0, 0));
        DUE.yes("set(5, 1, 0)", x.set(5, 1, 0));
        DUE.is("look(8)", x.look(8), 512);
        DUE.no("set(5, 10, 1)", x.set(5, 10, 1));
        DUE.no("set(5, -1, 1)", x.set(5, -1, 1));
        DUE.no("set(5, 3, 2)", x.set(5, 3, 2));
        DUE.no("set(5, 3, -1)", x.set(5, 3, -1));
        DUE.no("set(6, 0, 1)", x.set(6, 0, 1));
        DUE.no("set(-1, 0, 1)", x.set(-1, 0, 1));
        DUE.is("look(8)", x.look(8), 512);
    }

    private static void setWalker() {
        DUE.promise(4);
        PierTooFar x = new PierTooFar();
        x.walker(3, 10, 5);
        x.walker(3, 10, 5);
        DUE.yes("set(2, 0, 1)", x.set(2, 0, 1));
        DUE.yes("set(2, 0, 9)", x.set(2, 0, 9));
        DUE.no("set(2, 0, 0)", x.set(2, 0, 0));
        DUE.no("set(2, 0, 10)", x.set(2, 0, 10));
        DUE.is("of(0, 0)", x.of(0, 0), 9);
        DUE.yes("set(3, 0, 1)", x.set(3, 0, 1));
        DUE.yes("set(3, 0, 30)", x.set(3, 0, 30));
        DUE.no("set(3, 0, 0)", x.set(3, 0, 0));
        DUE.no("set(3, 0, 31)", x.set(3, 0, 31));
        DUE.is("of(0, 1)", x.of(0, 1), 30);
        DUE.yes("set(4, 0, 9)", x.set(4, 0, 9));
        DUE.yes("set(4, 0, 0)", x.set(4, 0, 0));
        DUE.no("set(4, 0, -1)", x.set(4, 0, -1));
        DUE.no("set(4, 0, 10)", x.set(4, 0, 10));
        DUE.is("of(0, 2)", x.of(0, 2), 0);
        DUE.is("of(1, 0)", x.of(1, 0), 3);
        DUE.is("of(1, 1)", x.of(1, 1), 10);
        DUE.is("of(1, 2)", x.of(1, 2), 5);
        DUE.no("set(2, 2, 1)", x.set(2, 2, 1));
        DUE.no("set(3, -1, 1)", x.set(3, -1, 1));
        DUE.no("set(4, 12, 1)", x.set(4, 12, 1));
        x.set(1, 0, 40);
        x.act(2, 0);
        DUE.no("set(2, 0, 1) not ashore", x.set(2, 0, 1));
        DUE.no("set(3, 0, 1) not ashore", x.set(3, 0, 1));
        DUE.no("set(4, 0, 1) not ashore", x.set(4, 0, 1));
        DUE.is("look(15) behind refused ones", x.look(15), 1);
        DUE.yes("set(4, 1, 1)", x.set(4, 1, 1));
        DUE.is("look(15) behind set()", x.look(15), 0);
    }

    private static void setLong() {
        DUE.promise(4);
        PierTooFar x = new PierTooFar();
        DUE.yes("set(1, 99, 200)", x.set(1, 99, 200));
        DUE.is("look(1)", x.look(1), 200);
        x.act(0, 199);
        x.act(0, 10);
        x.act(0, 9);
        DUE.no("set(1, 0, 201)", x.set(1, 0, 201));
        DUE.no("set(1, 0, -1)", x.set(1, 0, -1));
        DUE.is("look(1)", x.look(1), 200);
        DUE.is("look(2)", x.look(2), 3);
        DUE.yes("set(1, 0, 10)", x.set(1, 0, 10));
        DUE.is("look(2)", x.look(2), 1);
        DUE.is("mile(9, 0)", x.mile(9, 0), 1);
        DUE.is("mile(10, 0)", x.mile(10, 0), 0);
        x.set(1, 0, 200);
        DUE.is("look(2)", x.look(2), 1);
        DUE.yes("set(1, 0, 0)", x.set(1, 0, 0));
        DUE.is("look(2)", x.look(2), 0);
        x.owns(0, 0);
        x.set(1, 0, 1);
        DUE.no("undo() behind set()", x.undo());
    }

    private static void owns() {
        DUE.promise(5);
        PierTooFar x = new PierTooFar();
        DUE.is("owns(0, 0)", x.owns(0, 0), 1);
        DUE.is("owns(5, 99)", x.owns(5, 99), 12);
        DUE.is("owns(2, 8)", x.owns(2, 8), 1);
        DUE.is("owns(2, 9)", x.owns(2, 9), 2);
        DUE.is("owns(6, 0)", x.owns(6, 0), -1);
        DUE.is("owns(-1, 0)", x.owns(-1, 0), -1);
        DUE.is("owns(0, 100)", x.owns(0, 100), -1);
        DUE.is("owns(0, -1)", x.owns(0, -1), -1);
        DUE.is("look(1)", x.look(1), 16);
        DUE.is("look(9)", x.look(9), 4);
        DUE.is("look(15)", x.look(15), 4);
        DUE.is("book(1, 0)", x.book(1, 0), 0);
        DUE.is("book(1, 1)", x.book(1, 1), 0);
        DUE.is("book(1, 2)", x.book(1, 2), 5);
        DUE.is("book(1, 3)", x.book(1, 3), 12);
        Due.tell(x, 0, "shame deed*3;");
        DUE.is("owns(4, 1)", x.owns(4, 1), 12);
        DUE.is("owns(0, 99)", x.owns(0, 99), 0);
        DUE.is("look(9)", x.look(9), 6);
        DUE.is("book(5, 3)", x.book(5, 3), 0);
    }

    private static void ownsAtTheEnd() {
        DUE.promise(5);
        PierTooFar x = new PierTooFar();
        x.set(1, 0, 195);
        DUE.is("owns(1, 99)", x.owns(1, 99), 5);
        DUE.is("book(0, 3)", x.book(0, 3), 5);
        DUE.is("owns(1, 99) at 200", x.owns(1, 99), 0);
        DUE.is("look(1)", x.look(1), 200);
        DUE.is("look(9)", x.look(9), 2);
        DUE.is("look(15)", x.look(15), 2);
    }

    private static void breakAndMend() {
        DUE.promise(6);
        PierTooFar x = new PierTooFar();
        DUE.no("act(0, 0)", x.act(0, 0));
        x.set(1, 0, 10);
        DUE.no("act(0, 10)", x.act(0, 10));
        DUE.no("act(0, -1)", x.act(0, -1));
        DUE.no("act(0, 200)", x.act(0, 200));
        DUE.no("act(1, 9)", x.act(1, 9));
        DUE.no("act(1, 10)", x.act(1, 10));
        DUE.no("act(1, -1)", x.act(1, -1));
        DUE.no("act(1, 200)", x.act(1, 200));
        DUE.yes("act(0, 9)", x.act(0, 9));
        DUE.no("act(0, 9) again", x.act(0, 9));
        DUE.is("mile(9, 0)", x.mile(9, 0), 1);
        DUE.is("book(0, 1)", x.book(0, 1), 1);
        DUE.is("book(0, 2)", x.book(0, 2), 9);
        DUE.is("book(0, 3)", x.book(0, 3), 10);
        DUE.yes("act(1, 9)", x.act(1, 9));
        DUE.no("act(1, 9) again", x.act(1, 9));
        DUE.is("mile(9, 0)", x.mile(9, 0), 0);
        DUE.is("book(1, 1)", x.book(1, 1), 2);
        DUE.is("book(1, 2)", x.book(1, 2), 9);
        DUE.is("book(1, 3)", x.book(1, 3), 10);
        DUE.is("look(9)", x.look(9), 2);
        DUE.is("look(15)", x.look(15), 2);
        DUE.is("look(10): no DRAW by hand", x.look(10), 0);
        DUE.no("act(3, 0)", x.act(3, 0));
        DUE.no("act(-1, 0)", x.act(-1, 0));
    }

    private static void setOff() {
        DUE.promise(6);
        PierTooFar x = new PierTooFar();
        x.walker(3, 10, 5);
        x.walker(2, 7, 5);
        DUE.no("act(2, 0) without a pier", x.act(2, 0));
        x.set(1, 0, 1);
        DUE.no("act(2, 2)", x.act(2, 2));
        DUE.no("act(2, -1)", x.act(2, -1));
        x.act(0, 0);
        DUE.no("act(2, 0), MILE 0 being BROKEN", x.act(2, 0));
        x.act(1, 0);
        x.days(2);
        DUE.yes("act(2, 1)", x.act(2, 1));
        DUE.no("act(2, 1) again", x.act(2, 1));
        DUE.is("of(1, 3)", x.of(1, 3), 0);
        DUE.is("of(1, 4)", x.of(1, 4), 1);
        DUE.is("of(1, 5)", x.of(1, 5), 7);
        DUE.is("of(0, 3)", x.of(0, 3), -1);
        DUE.is("look(9)", x.look(9), 3);
        DUE.is("book(2, 1)", x.book(2, 1), 3);
        DUE.is("book(2, 2)", x.book(2, 2), 1);
        DUE.is("book(2, 3)", x.book(2, 3), 2);
        DUE.is("look(15)", x.look(15), 5);
    }

    private static void refusedChangesNothing() {
        PierTooFar x = new PierTooFar();
        x.state(77);
        x.walker(3, 10, 5);
        x.set(1, 0, 60);
        x.act(0, 30);
        x.act(2, 0);
        long before = Due.seen(x);
        DUE.promise(3);
        x.walker(0, 0, 0);
        DUE.promise(4);
        x.set(0, 0, 10);
        x.set(1, 0, 201);
        x.set(2, 0, 2);
        x.set(3, 1, 2);
        x.set(5, 10, 0);
        x.set(7, 0, 0);
        DUE.promise(5);
        x.owns(6, 1);
        x.owns(1, 100);
        DUE.promise(6);
        x.act(0, 30);
        x.act(0, 60);
        x.act(1, 31);
        x.act(2, 0);
        x.act(2, 1);
        x.act(4, 0);
        DUE.is("all that is seen behind refused calls", Due.seen(x), before);
    }
}
