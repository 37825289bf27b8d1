import java.util.function.Consumer;
import java.util.function.IntPredicate;
import java.util.function.IntUnaryOperator;
import java.util.function.Supplier;

/** What the tests of edges share: one count of due answers, sentences that are held, and ways to make piers. */
final class Edges {
    static final Due DUE = new Due("EdgesTest");
    static final int LEAST = Integer.MIN_VALUE;
    static final int MOST = Integer.MAX_VALUE;
    static final int NONE = -1;

    private Edges() {
    }

    /** The next answers hold this sentence of this part of the document; it is printed with each wrong one. */
    static void holds(String part, String sentence) {
        Doc.quote(part, sentence);
        DUE.holds(part + ", \"" + sentence + "\"");
    }

    static void is(String call, long got, long due) {
        DUE.is(call, got, due);
    }

    static void yes(String call, boolean got) {
        DUE.yes(call, got);
    }

    static void no(String call, boolean got) {
        DUE.no(call, got);
    }

    /** What is taken at least and at most, and what is refused beside them and far away. */
    static void range(String call, int least, int most, IntPredicate taken) {
        range(call, least - 1, least, most, taken);
    }

    /** The same, where the number below the least has a meaning of its own and another one is refused. */
    static void range(String call, int below, int least, int most, IntPredicate taken) {
        for (int v : new int[] {least, least + 1, most - 1, most}) {
            yes(call + " with v " + v, taken.test(Math.max(least, Math.min(most, v))));
        }
        for (int v : new int[] {LEAST, LEAST + 1, below - 256, below - 1, below, most + 1, most + 2, most + 256, MOST - 1, MOST}) {
            no(call + " with v " + v, taken.test(v));
        }
    }

    /** What is answered at least and at most, and NONE beside them and far away. */
    static void answers(String call, int least, int most, IntUnaryOperator answer, IntUnaryOperator due) {
        answers(call, least - 1, least, most, answer, due);
    }

    /** The same, where the number below the least has a meaning of its own and another one is refused. */
    static void answers(String call, int below, int least, int most, IntUnaryOperator answer, IntUnaryOperator due) {
        range(call, below, least, most, v -> answer.applyAsInt(v) == due.applyAsInt(v));
        range(call + " or NONE", below, least, most, v -> answer.applyAsInt(v) != NONE);
    }

    /** For "another what": all around those that there are. */
    static int[] others(int below, int above) {
        return new int[] {LEAST, below - 1, below, above, above + 1, above + 255, MOST};
    }

    /** All that can be seen is the same on one pier with the calls and on another one without them. */
    static void stays(String calls, Supplier<PierTooFar> made, Consumer<PierTooFar> refused) {
        PierTooFar with = made.get();
        refused.accept(with);
        PierTooFar without = made.get();
        is("what is seen behind " + calls, Due.seen(with), Due.seen(without));
        is("what is thought behind " + calls, Due.thought(with), Due.thought(without));
        is("fault(0) behind " + calls, with.fault(0), without.fault(0));
        is("fault(1) behind " + calls, with.fault(1), without.fault(1));
        for (int i = 0; i < 7; i++) {
            is("undo() behind " + calls, with.undo() ? 1 : 0, without.undo() ? 1 : 0);
        }
        is("what is seen behind " + calls + " and undo()", Due.seen(with), Due.seen(without));
    }

    static PierTooFar pier(int length) {
        PierTooFar x = new PierTooFar();
        x.set(1, 0, length);
        return x;
    }

    /** A pier with so many walkers of one sort. */
    static PierTooFar walkers(int n, int pace, int days, int length) {
        PierTooFar x = pier(length);
        for (int w = 0; w < n; w++) {
            x.walker(pace, days, 5);
        }
        return x;
    }

    /** A pier on which all that can be told is told and much is done: three can be undone, one walker is out. */
    static PierTooFar busy() {
        PierTooFar x = new PierTooFar();
        x.state(4711);
        x.walker(3, 12, 4);
        x.walker(2, 9, 6);
        x.set(0, 0, 3);
        x.set(1, 0, 70);
        x.set(5, 1, 1);
        tell(x, 0, "shame bad/8+deed;walks pace+nerve/5 when left>3;storm 40+mile;");
        tell(x, 1, "in 0 deed 2 bad 30;in 1 deed 3 bad 20;");
        tell(x, 2, "kiosk 5;kiosk 30;bed 8;bed 17;lamp 9;");
        tell(x, 3, "on 2 1;on 3 0;");
        x.want(0, 20);
        x.want(0, 60);
        x.want(1, 25);
        x.want(1, 55);
        x.talk(1, 2, 3);
        x.talk(2, 4, 60);
        x.did(3, 30);
        x.deed(9, 4);
        x.deed(5, 3);
        x.price(9);
        x.price(4);
        x.lamp(1, 1, 1);
        x.lamp(2, 2, 2);
        x.odds(4, 50);
        x.odds(7, 30);
        x.act(0, 40);
        x.act(2, 0);
        x.days(1);
        return x;
    }

    /** The same with two that can be undone: a DAY and another one; walker 1 is ashore. */
    static PierTooFar busyWithTwo() {
        PierTooFar x = busy();
        x.undo();
        x.undo();
        x.set(0, 0, 3);
        x.act(2, 0);
        x.days(1);
        return x;
    }

    static int tell(PierTooFar x, int k, String text) {
        return Due.tell(x, k, text);
    }

    static String times(String line, int n) {
        return line.repeat(n);
    }

    /** How many lines a text has that is taken without a FAULT. */
    static void fine(PierTooFar x, int k, String text, int lines) {
        is("text(" + k + ") of \"" + text + "\"", tell(x, k, text), lines);
        is("fault(0) of \"" + text + "\"", x.fault(0), 0);
        is("fault(1) of \"" + text + "\"", x.fault(1), NONE);
    }

    static void fault(PierTooFar x, int k, String text, int which, int place) {
        is("text(" + k + ") of \"" + text + "\"", tell(x, k, text), NONE);
        is("fault(0) of \"" + text + "\"", x.fault(0), which);
        is("fault(1) of \"" + text + "\"", x.fault(1), place);
    }

    /** A line of THE BOOK. */
    static void line(PierTooFar x, int i, int year, int what, int which, int much) {
        is("book(" + i + ", 0)", x.book(i, 0), year);
        is("book(" + i + ", 1)", x.book(i, 1), what);
        is("book(" + i + ", 2)", x.book(i, 2), which);
        is("book(" + i + ", 3)", x.book(i, 3), much);
    }

    /** Where a walker is, whether he goes out, and his days. */
    static void walker(PierTooFar x, int w, int at, int out, int left) {
        is("of(" + w + ", 3)", x.of(w, 3), at);
        is("of(" + w + ", 4)", x.of(w, 4), out);
        is("of(" + w + ", 5)", x.of(w, 5), left);
    }
}
