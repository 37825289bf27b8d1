/** Promises 38 to 40: what was done undone, THE IMAGE, and what is looked at. */
public final class UndoTest {
    private static final Due DUE = new Due("UndoTest");

    public static void main(String[] args) {
        nothing();
        eachSort();
        oneByOne();
        sixAreKept();
        thenOtherwise();
        whatForgets();
        whatDoesNot();
        textsStayBehindUndo();
        image();
        imageOfThought();
        imageAgain();
        imageAndUndo();
        imageAndBook();
        imageLeaves();
        look();
        DUE.close();
    }

    private static void nothing() {
        DUE.promise(38);
        PierTooFar x = new PierTooFar();
        x.set(1, 0, 20);
        long before = Due.seen(x);
        DUE.no("undo()", x.undo());
        DUE.is("what is seen behind it", Due.seen(x), before);
    }

    private static PierTooFar ready() {
        PierTooFar x = new PierTooFar();
        x.state(31);
        x.walker(3, 8, 1);
        x.walker(5, 3, 1);
        Due.tell(x, 0, "storm 1000;");
        Due.tell(x, 1, "in 0 deed 1 bad 90;in 1 deed 2 bad 60;");
        Due.tell(x, 3, "on 0 1;on 1 1;");
        x.set(1, 0, 50);
        return x;
    }

    private static void eachSort() {
        DUE.promise(38);
        String[] sorts = {"a YEAR", "a DAY", "OWNING", "BREAKING", "MENDING", "setting off"};
        for (String sort : sorts) {
            PierTooFar x = ready();
            x.act(0, 2);
            long before = Due.seen(x);
            doOne(x, sort);
            DUE.is("what is seen behind " + sort, Due.seen(x) == before ? 1 : 0, 0);
            DUE.yes("undo() of " + sort, x.undo());
            DUE.is("what is seen behind undo() of " + sort, Due.seen(x), before);
        }
    }

    private static void doOne(PierTooFar x, String sort) {
        switch (sort) {
            case "a YEAR" -> x.years(1);
            case "a DAY" -> x.days(1);
            case "OWNING" -> x.owns(2, 2);
            case "BREAKING" -> x.act(0, 40);
            case "MENDING" -> x.act(1, 2);
            default -> x.act(2, 0);
        }
    }

    private static void oneByOne() {
        DUE.promise(38);
        PierTooFar x = ready();
        x.years(3);
        DUE.is("look(15): a YEAR each", x.look(15), 3);
        DUE.yes("undo()", x.undo());
        DUE.is("look(4)", x.look(4), 2);
        DUE.yes("undo()", x.undo());
        DUE.is("look(4)", x.look(4), 1);
        DUE.is("look(1)", x.look(1), 61);
        DUE.is("look(15)", x.look(15), 1);
        x.days(4);
        DUE.is("look(15): a DAY each", x.look(15), 5);
        DUE.is("look(6): LOST", x.look(6), 0);
        DUE.yes("undo()", x.undo());
        DUE.is("look(5)", x.look(5), 3);
    }

    private static void sixAreKept() {
        DUE.promise(38);
        PierTooFar x = ready();
        int[] states = new int[9];
        for (int i = 0; i < 8; i++) {
            x.years(1);
            states[i] = x.look(10);
        }
        DUE.is("look(15)", x.look(15), 6);
        for (int i = 6; i >= 1; i--) {
            DUE.yes("undo()", x.undo());
            DUE.is("look(4)", x.look(4), i + 1);
            DUE.is("look(10)", x.look(10), states[i]);
        }
        DUE.is("look(15)", x.look(15), 0);
        DUE.no("the seventh undo()", x.undo());
        DUE.is("look(4)", x.look(4), 2);
        x.years(20);
        DUE.is("look(15)", x.look(15), 6);
        DUE.yes("undo()", x.undo());
        DUE.is("look(4)", x.look(4), 21);
    }

    private static void thenOtherwise() {
        DUE.promise(38);
        PierTooFar x = ready();
        x.act(0, 1);
        x.act(0, 2);
        x.undo();
        x.act(0, 3);
        DUE.is("look(15)", x.look(15), 2);
        DUE.is("book(1, 2)", x.book(1, 2), 3);
        x.undo();
        DUE.is("mile(3, 0)", x.mile(3, 0), 0);
        DUE.is("mile(2, 0)", x.mile(2, 0), 0);
        DUE.is("mile(1, 0)", x.mile(1, 0), 1);
        x.undo();
        DUE.is("look(2)", x.look(2), 0);
        DUE.no("undo()", x.undo());
    }

    private static void whatForgets() {
        DUE.promise(38);
        PierTooFar x = ready();
        for (int what = 0; what <= 8; what++) {
            x.owns(0, 0);
            DUE.is("look(15)", x.look(15) > 0 ? 1 : 0, 1);
            tellOne(x, what);
            DUE.is("look(15) behind telling " + what, x.look(15), 0);
            DUE.no("undo() behind telling " + what, x.undo());
        }
    }

    private static void tellOne(PierTooFar x, int what) {
        switch (what) {
            case 0 -> x.state(x.look(10));
            case 1 -> x.walker(1, 1, 1);
            case 2 -> x.set(0, 0, 0);
            case 3 -> x.set(1, 0, 40);
            case 4 -> x.set(2, 0, 3);
            case 5 -> x.set(4, 0, 3);
            case 6 -> x.set(5, 0, 0);
            case 7 -> Due.tell(x, 1, "in 0 deed 0 bad 0;");
            default -> Due.tell(x, 3, "on 0 0;");
        }
    }

    private static void whatDoesNot() {
        DUE.promise(38);
        PierTooFar x = ready();
        x.owns(0, 0);
        Due.tell(x, 0, "shame 1;");
        Due.tell(x, 2, "bed 1;kiosk 3;");
        x.want(0, 1);
        x.want(1, 1);
        x.want(0, -1);
        x.talk(1, 2, 3);
        x.talk(0, 0, -1);
        x.did(1, 2);
        x.did(-1, 0);
        x.deed(1, 2);
        x.deed(-1, 0);
        x.price(1);
        x.price(-1);
        x.lamp(1, 1, 1);
        x.odds(1, 1);
        x.image(true);
        x.goes(3, 0);
        x.far(0, 0);
        x.meets(0, 1, 0);
        x.walker(0, 0, 0);
        x.set(0, 0, 77);
        x.set(9, 0, 1);
        x.owns(9, 9);
        x.years(0);
        x.days(61);
        x.act(0, 100);
        x.fault(0);
        DUE.is("look(15)", x.look(15), 1);
        DUE.yes("undo()", x.undo());
        DUE.is("look(1)", x.look(1), 50);
    }

    private static void textsStayBehindUndo() {
        DUE.promise(38);
        PierTooFar x = ready();
        x.years(1);
        Due.tell(x, 0, "storm 77;storm 1;");
        Due.tell(x, 2, "bed 33;");
        x.price(5);
        x.undo();
        DUE.is("mile(0, 4)", x.mile(0, 4), 77);
        DUE.is("mile(33, 2)", x.mile(33, 2), 1);
        DUE.is("prices(1)", x.prices(1), 5);
        DUE.is("look(11)", x.look(11), 2);
        DUE.is("look(4)", x.look(4), 0);
    }

    private static void image() {
        DUE.promise(39);
        PierTooFar x = ready();
        DUE.no("image(false)", x.image(false));
        Due.tell(x, 2, "kiosk 7;bed 8;lamp 9;");
        x.set(0, 0, 3);
        x.set(5, 4, 1);
        x.act(2, 0);
        x.days(1);
        x.years(2);
        long before = Due.seen(x);
        DUE.yes("image(true)", x.image(true));
        DUE.is("what is seen behind the taking", Due.seen(x), before);
        x.undo();
        x.undo();
        x.undo();
        x.undo();
        x.state(5);
        x.walker(9, 9, 9);
        x.set(0, 0, 4);
        x.set(5, 5, 1);
        x.set(1, 0, 20);
        Due.tell(x, 0, "storm 3;");
        Due.tell(x, 1, "");
        Due.tell(x, 2, "");
        Due.tell(x, 3, "on 5 2;");
        x.set(2, 1, 1);
        x.set(3, 1, 1);
        x.set(4, 1, 9);
        x.days(9);
        DUE.yes("image(false)", x.image(false));
        DUE.is("look(15): nothing", x.look(15), 0);
        DUE.is("look(10)", x.look(10) == 31 ? 1 : 0, 0);
        DUE.is("look(0)", x.look(0), 2);
        DUE.is("look(3)", x.look(3), 3);
        DUE.is("look(4)", x.look(4), 2);
        DUE.is("look(5)", x.look(5), 1);
        DUE.is("look(8)", x.look(8), 16);
        DUE.is("look(11)", x.look(11), 1);
        DUE.is("look(12)", x.look(12), 2);
        DUE.is("look(13)", x.look(13), 3);
        DUE.is("look(14)", x.look(14), 2);
        DUE.is("of(0, 3)", x.of(0, 3), 3);
        DUE.is("of(0, 4)", x.of(0, 4), 1);
        DUE.is("of(0, 5)", x.of(0, 5), 7);
        DUE.is("of(1, 0)", x.of(1, 0), 5);
        DUE.is("of(1, 1)", x.of(1, 1), 3);
        DUE.is("of(1, 2)", x.of(1, 2), 1);
        DUE.is("mile(7, 1)", x.mile(7, 1), 1);
        DUE.is("mile(0, 4)", x.mile(0, 4), 1000);
    }

    private static void thinkOf(PierTooFar x, int n) {
        x.want(0, 10 * n);
        x.want(1, 10 * n + 5);
        x.talk(n, n + 1, n);
        x.did(n, 3 * n + 3);
        x.deed(n, n);
        x.price(50 - n);
        x.lamp(n, 2, n % 4);
        x.odds(n, 20 * n);
    }

    private static void imageOfThought() {
        DUE.promise(39);
        PierTooFar x = new PierTooFar();
        x.set(1, 0, 100);
        thinkOf(x, 1);
        thinkOf(x, 2);
        long thought = Due.thought(x);
        x.image(true);
        thinkOf(x, 3);
        x.want(0, -1);
        x.talk(5, 6, 0);
        x.lamp(1, 0, 0);
        x.odds(9, 9);
        DUE.is("other thoughts", Due.thought(x) == thought ? 1 : 0, 0);
        x.image(false);
        DUE.is("the thoughts behind image(false)", Due.thought(x), thought);
        DUE.is("price(1): a third one", x.price(1), 3);
        DUE.is("want(0, 1): a third one", x.want(0, 1), 3);
        DUE.is("want(1, 1): a third one", x.want(1, 1), 3);
        DUE.is("talk(1, 1, 1): a third one", x.talk(1, 1, 1), 3);
        DUE.is("did(1, 1): a third one", x.did(1, 1), 3);
        DUE.is("deed(1, 1): a third one", x.deed(1, 1), 3);
    }

    private static void imageAgain() {
        DUE.promise(39);
        PierTooFar x = ready();
        x.image(true);
        x.years(2);
        x.image(false);
        DUE.is("look(4)", x.look(4), 0);
        DUE.is("look(10)", x.look(10), 31);
        x.years(3);
        int after = x.look(10);
        x.image(false);
        x.years(3);
        DUE.is("look(10): the same goes on", x.look(10), after);
        x.image(true);
        x.years(1);
        x.image(false);
        DUE.is("look(4): the later one", x.look(4), 3);
        DUE.yes("image(false)", x.image(false));
        DUE.is("look(4)", x.look(4), 3);
    }

    private static void imageAndUndo() {
        DUE.promise(39);
        PierTooFar x = ready();
        x.years(1);
        x.image(true);
        DUE.is("look(15): the taking forgets nothing", x.look(15), 1);
        x.years(1);
        x.image(false);
        DUE.is("look(15)", x.look(15), 0);
        DUE.no("undo()", x.undo());
        DUE.is("look(4)", x.look(4), 1);
        x.years(1);
        DUE.yes("undo()", x.undo());
        DUE.is("look(4)", x.look(4), 1);
    }

    private static void imageAndBook() {
        DUE.promise(39);
        PierTooFar x = ready();
        x.act(0, 1);
        x.act(0, 2);
        x.image(true);
        x.undo();
        x.undo();
        x.act(0, 30);
        x.act(0, 31);
        x.act(0, 32);
        x.image(false);
        DUE.is("look(9)", x.look(9), 2);
        DUE.is("book(0, 2)", x.book(0, 2), 1);
        DUE.is("book(1, 2)", x.book(1, 2), 2);
        DUE.is("book(2, 2)", x.book(2, 2), -1);
    }

    private static void imageLeaves() {
        DUE.promise(39);
        PierTooFar x = ready();
        Due.feed(x, "storm 7;storm 8;");
        x.image(true);
        x.text(0);
        Due.tell(x, 0, "storm 4;storm 5;$");
        DUE.is("fault(1)", x.fault(1), 16);
        Due.feed(x, "shame 9;");
        x.image(false);
        DUE.is("fault(0) is not of THE IMAGE", x.fault(0), 1);
        DUE.is("fault(1)", x.fault(1), 16);
        DUE.is("text(0): nor the TAPE", x.text(0), 1);
        DUE.is("shame(0, 0)", x.shame(0, 0), 9);
    }

    private static void look() {
        DUE.promise(40);
        PierTooFar x = ready();
        x.set(0, 0, 2);
        x.set(5, 1, 1);
        x.set(5, 3, 1);
        Due.tell(x, 2, "bed 1;bed 2;lamp 3;");
        x.act(2, 0);
        x.days(3);
        x.years(1);
        DUE.is("look(0)", x.look(0), 2);
        DUE.is("look(1)", x.look(1), 61);
        int broken = 0;
        for (int m = 0; m < 200; m++) {
            broken += x.mile(m, 0);
        }
        DUE.is("look(2)", x.look(2), broken);
        DUE.is("look(2): at most one a part", broken >= 3 && broken <= 4 ? 1 : 0, 1);
        DUE.is("look(3)", x.look(3), 2);
        DUE.is("look(4)", x.look(4), 1);
        DUE.is("look(5)", x.look(5), 3);
        DUE.is("look(6)", x.look(6), 0);
        DUE.is("look(7)", x.look(7), 1);
        DUE.is("look(8)", x.look(8), 10);
        DUE.is("look(11)", x.look(11), 1);
        DUE.is("look(12)", x.look(12), 2);
        DUE.is("look(13)", x.look(13), 3);
        DUE.is("look(14)", x.look(14), 2);
        DUE.is("look(15)", x.look(15), 5);
        DUE.is("look(16)", x.look(16), -1);
        DUE.is("look(-1)", x.look(-1), -1);
        DUE.promise(13);
        DUE.is("of(2, 0)", x.of(2, 0), -2);
        DUE.is("of(-1, 0)", x.of(-1, 0), -2);
        DUE.is("of(0, 7)", x.of(0, 7), -2);
        DUE.is("of(0, -1)", x.of(0, -1), -2);
    }
}
