/** What the tests share: each due answer is counted, each other one is printed with its promise. */
final class Due {
    private final String test;
    private String held = "promise 0";
    private int right = 0;
    private int wrong = 0;

    Due(String test) {
        this.test = test;
    }

    void promise(int number) {
        held = "promise " + number;
    }

    /** What the next answers hold, in words that are printed with each one that is not due. */
    void holds(String words) {
        held = words;
    }

    void is(String call, long got, long due) {
        if (got == due) {
            right++;
            return;
        }
        wrong++;
        System.out.println(test + ", " + held + ": " + call + " answered " + got + ", due is " + due);
    }

    void yes(String call, boolean got) {
        is(call, got ? 1 : 0, 1);
    }

    void no(String call, boolean got) {
        is(call, got ? 1 : 0, 0);
    }

    /** Closes the test: exit code 1, if an answer was not due. */
    void close() {
        System.out.println(test + ": " + right + " answers as due, " + wrong + " not");
        if (wrong > 0 || right == 0) {
            System.exit(1);
        }
    }

    /** Puts a text on the empty TAPE by feed and end, blanks filling the last twenty bytes. */
    static void feed(PierTooFar x, String text) {
        StringBuilder padded = new StringBuilder(text);
        while (padded.length() % 20 != 0) {
            padded.append(' ');
        }
        for (int i = 0; i < padded.length(); i += 20) {
            x.feed(four(padded, i), four(padded, i + 4), four(padded, i + 8), four(padded, i + 12), four(padded, i + 16));
        }
        x.end(text.length());
    }

    private static int four(CharSequence text, int from) {
        return text.charAt(from) << 24 | text.charAt(from + 1) << 16 | text.charAt(from + 2) << 8 | text.charAt(from + 3);
    }

    static int tell(PierTooFar x, int k, String text) {
        feed(x, text);
        return x.text(k);
    }

    /** What can be seen of the pier, its walkers, its book and its texts as one number, by some hundred calls. */
    static long seen(PierTooFar x) {
        long seen = 17;
        for (int what = 0; what <= 15; what++) {
            seen = 31 * seen + x.look(what);
        }
        for (int w = 0; w < x.look(0) && w < 3; w++) {
            for (int what = 0; what <= 6; what++) {
                seen = 31 * seen + x.of(w, what);
            }
        }
        for (int m = 0; m < 200; m += 5) {
            seen = 31 * seen + x.mile(m, 0);
        }
        for (int part = 0; part < 10; part += 3) {
            seen = 31 * seen + x.mile(20 * part, 4);
        }
        for (int what = 0; what <= 3; what++) {
            seen = 31 * seen + x.book(x.look(9) - 1, what);
        }
        return 31 * seen + x.next(0);
    }

    /** What was told for thought, as far as its answers show it, as one number, by some fifty calls. */
    static long thought(PierTooFar x) {
        long seen = 19;
        for (int what = 0; what <= 1; what++) {
            seen = 31 * seen + x.fits(what);
            seen = 31 * seen + x.prices(what);
            seen = 31 * seen + x.strength(1, what);
            seen = 31 * seen + x.strength(5, what);
            seen = 31 * seen + x.serves(1, what);
            seen = 31 * seen + x.serves(6, what);
            seen = 31 * seen + x.ownsUp(0, what);
            seen = 31 * seen + x.ownsUp(5, what);
        }
        for (int word = 0; word < 10; word++) {
            seen = 31 * seen + x.said(word, 199, 0);
        }
        for (int bits = 0; bits < 16; bits++) {
            seen = 31 * seen + x.reads(4, bits);
        }
        return 31 * seen + x.reads(-1, 0);
    }

    /** STATE and what is drawn from it, made here once more, so that the tests don't ask the program. */
    static final class Draws {
        int state;

        Draws(int state) {
            this.state = state;
        }

        int draw(int m) {
            state = state * 1664525 + 1013904223;
            return (int) ((state & 0xFFFFFFFFL) / 256 % m);
        }
    }
}
