/** Promises 7, 8 and 16: years, days, and what THE BOOK tells of them. */
public final class GoingTest {
    private static final Due DUE = new Due("GoingTest");

    public static void main(String[] args) {
        yearsRefused();
        yearsEdge();
        deedsOfAYear();
        stormDraws();
        stormOnlyBelowLong();
        stormAsksForThePart();
        daysRefused();
        daysEdge();
        aWalk();
        turnsAtHalf();
        turnsAtTheEnd();
        turnsAtAGap();
        backByAGap();
        lost();
        oneDayOnly();
        walksOfNone();
        settingOff();
        settingWaits();
        beyondTheEnd();
        byWalkers();
        bookIsFull();
        DUE.close();
    }

    private static void line(PierTooFar x, int i, int year, int what, int which, int much) {
        DUE.is("book(" + i + ", 0)", x.book(i, 0), year);
        DUE.is("book(" + i + ", 1)", x.book(i, 1), what);
        DUE.is("book(" + i + ", 2)", x.book(i, 2), which);
        DUE.is("book(" + i + ", 3)", x.book(i, 3), much);
    }

    private static void yearsRefused() {
        DUE.promise(7);
        PierTooFar x = new PierTooFar();
        x.set(0, 0, 9);
        x.set(1, 0, 100);
        DUE.is("years(0)", x.years(0), -1);
        DUE.is("years(61)", x.years(61), -1);
        DUE.is("years(-1)", x.years(-1), -1);
        DUE.is("years(2147483647)", x.years(Integer.MAX_VALUE), -1);
        DUE.is("look(4)", x.look(4), 0);
        DUE.is("look(10)", x.look(10), 0);
        DUE.is("look(15)", x.look(15), 0);
    }

    private static void yearsEdge() {
        DUE.promise(7);
        PierTooFar x = new PierTooFar();
        for (int i = 0; i < 166; i++) {
            x.years(60);
        }
        DUE.is("look(4)", x.look(4), 9960);
        DUE.is("years(40)", x.years(40), -1);
        DUE.is("look(4)", x.look(4), 9960);
        DUE.is("years(39)", x.years(39), 0);
        DUE.is("look(4)", x.look(4), 9999);
        DUE.is("years(1)", x.years(1), -1);
        DUE.is("look(4)", x.look(4), 9999);
        DUE.is("look(15)", x.look(15), 6);
    }

    private static void deedsOfAYear() {
        DUE.promise(7);
        PierTooFar x = new PierTooFar();
        Due.tell(x, 0, "shame long+deed when long>0;shame year+3;storm 0;");
        Due.tell(x, 1, "in 1 deed 4 bad 9; in 0 deed 5 bad 0; in 1 deed 2 bad 3; in 3 deed 0 bad 0;");
        DUE.is("years(1)", x.years(1), 0);
        DUE.is("look(1): no LONG, so year and 3", x.look(1), 3);
        line(x, 0, 0, 0, 5, 3);
        x.years(1);
        DUE.is("look(1): 3, then 3 + 4, then 10 + 2", x.look(1), 22);
        line(x, 1, 1, 0, 4, 7);
        line(x, 2, 1, 0, 2, 12);
        x.years(1);
        DUE.is("look(9)", x.look(9), 3);
        x.years(1);
        DUE.is("look(1): 20 at most", x.look(1), 42);
        DUE.is("look(4)", x.look(4), 4);
        x.set(1, 0, 200);
        Due.tell(x, 1, "in 4 deed 1 bad 1;");
        x.years(1);
        line(x, 4, 4, 0, 1, 0);
        DUE.is("look(10): no DRAW without a storm", x.look(10), 0);
        Due.tell(x, 0, "shame 0-5;");
        x.set(1, 0, 10);
        DUE.is("owns(1, 1): 0 at least", x.owns(1, 1), 0);
    }

    private static void stormDraws() {
        DUE.promise(7);
        PierTooFar x = new PierTooFar();
        x.state(12345);
        x.set(0, 0, 7);
        Due.tell(x, 0, "storm 300+mile;");
        x.set(1, 0, 130);
        Due.Draws draws = new Due.Draws(12345);
        boolean[] broken = new boolean[200];
        int[] years = new int[150];
        int[] miles = new int[150];
        int broke = 0;
        for (int year = 0; year < 12; year++) {
            for (int part = 0; part < 7; part++) {
                if (draws.draw(1000) >= 300 + 20 * part) {
                    continue;
                }
                int mile = 20 * part + draws.draw(20);
                if (mile < 130 && !broken[mile]) {
                    broken[mile] = true;
                    years[broke] = year;
                    miles[broke] = mile;
                    broke++;
                }
            }
        }
        DUE.is("years(12)", x.years(12), broke);
        DUE.is("look(2)", x.look(2), broke);
        DUE.is("look(9)", x.look(9), broke);
        DUE.is("look(10)", x.look(10), draws.state);
        for (int m = 0; m < 200; m++) {
            DUE.is("mile(" + m + ", 0)", x.mile(m, 0), broken[m] ? 1 : 0);
        }
        for (int i = 0; i < broke; i++) {
            line(x, i, years[i], 1, miles[i], 130);
        }
    }

    private static void stormOnlyBelowLong() {
        DUE.promise(7);
        PierTooFar x = new PierTooFar();
        Due.tell(x, 0, "storm 1000;");
        x.set(1, 0, 20);
        x.years(1);
        Due.Draws draws = new Due.Draws(0);
        draws.draw(1000);
        int mile = draws.draw(20);
        DUE.is("look(10): one part alone", x.look(10), draws.state);
        DUE.is("mile drawn", x.mile(mile, 0), 1);
        x.set(1, 0, 21);
        x.state(0);
        x.years(1);
        draws.draw(1000);
        draws.draw(20);
        DUE.is("look(10): two parts", x.look(10), draws.state);
        x.set(1, 0, 0);
        x.state(5);
        DUE.is("years(1) without MILES", x.years(1), 0);
        DUE.is("look(10): no part", x.look(10), 5);
        x.set(0, 0, 0);
        x.set(1, 0, 100);
        Due.tell(x, 0, "");
        x.years(2);
        DUE.is("look(10): storm is 0", x.look(10), 5);
        x.set(0, 0, 1);
        x.years(1);
        DUE.yes("STATE moves, storm being 10", x.look(10) != 5);
    }

    private static void stormAsksForThePart() {
        DUE.promise(7);
        PierTooFar x = new PierTooFar();
        Due.tell(x, 0, "storm 1000 when strong=0 and mile>19 and year=1 and long=60 and wind=4 ; storm 0;");
        x.set(1, 0, 60);
        x.set(0, 0, 4);
        x.set(5, 1, 1);
        x.years(1);
        DUE.is("look(10): not in this year", x.look(10), 0);
        DUE.is("years(1)", x.years(1), 1);
        Due.Draws draws = new Due.Draws(0);
        draws.draw(1000);
        int mile = 40 + draws.draw(20);
        DUE.is("mile drawn in part 2", x.mile(mile, 0), 1);
        line(x, 0, 1, 1, mile, 60);
    }

    private static void daysRefused() {
        DUE.promise(8);
        PierTooFar x = new PierTooFar();
        DUE.is("days(0)", x.days(0), -1);
        DUE.is("days(61)", x.days(61), -1);
        DUE.is("days(-2147483648)", x.days(Integer.MIN_VALUE), -1);
        DUE.is("look(5)", x.look(5), 0);
        DUE.is("look(15)", x.look(15), 0);
        DUE.is("days(60)", x.days(60), 0);
        DUE.is("look(5)", x.look(5), 60);
        DUE.is("look(4)", x.look(4), 0);
        DUE.is("look(10)", x.look(10), 0);
    }

    /** DAY 99999 lies beyond what 512 calls can reach; so far it goes. */
    private static void daysEdge() {
        DUE.promise(8);
        PierTooFar x = new PierTooFar();
        for (int i = 0; i < 500; i++) {
            x.days(60);
        }
        DUE.is("look(5)", x.look(5), 30000);
    }

    private static void aWalk() {
        DUE.promise(8);
        PierTooFar x = new PierTooFar();
        x.walker(3, 8, 0);
        x.set(1, 0, 100);
        x.act(2, 0);
        int[] at = {3, 6, 9, 6, 3, 0, -1};
        int[] left = {7, 6, 5, 4, 3, 2, 0};
        for (int day = 0; day < 7; day++) {
            DUE.is("days(1)", x.days(1), day == 6 ? 1 : 0);
            DUE.is("of(0, 3)", x.of(0, 3), at[day]);
            DUE.is("of(0, 4)", x.of(0, 4), day < 3 ? 1 : 0);
            DUE.is("of(0, 5)", x.of(0, 5), left[day]);
        }
        DUE.is("look(6)", x.look(6), 0);
        DUE.is("look(9)", x.look(9), 3);
        line(x, 0, 0, 3, 0, 0);
        line(x, 1, 0, 4, 0, 9);
        line(x, 2, 0, 5, 0, 6);
    }

    private static void turnsAtHalf() {
        DUE.promise(8);
        PierTooFar x = new PierTooFar();
        x.walker(1, 5, 0);
        x.set(1, 0, 100);
        x.act(2, 0);
        x.days(1);
        x.days(1);
        DUE.is("of(0, 4): LEFT 3 is above 2", x.of(0, 4), 1);
        DUE.is("of(0, 3)", x.of(0, 3), 2);
        x.days(1);
        DUE.is("of(0, 4): LEFT 2 is not above 2", x.of(0, 4), 0);
        DUE.is("of(0, 3): back on this DAY", x.of(0, 3), 1);
    }

    private static void turnsAtTheEnd() {
        DUE.promise(8);
        PierTooFar x = new PierTooFar();
        x.walker(4, 20, 0);
        x.set(1, 0, 6);
        x.act(2, 0);
        x.days(1);
        DUE.is("of(0, 3)", x.of(0, 3), 4);
        x.days(1);
        DUE.is("of(0, 3): stays at the last MILE", x.of(0, 3), 5);
        DUE.is("of(0, 4)", x.of(0, 4), 0);
        line(x, 1, 0, 4, 0, 5);
        x.days(1);
        DUE.is("of(0, 3)", x.of(0, 3), 1);
        DUE.is("days(1)", x.days(1), 1);
        DUE.is("look(9): one turning back", x.look(9), 3);
    }

    private static void turnsAtAGap() {
        DUE.promise(8);
        PierTooFar x = new PierTooFar();
        x.walker(4, 20, 0);
        x.set(1, 0, 60);
        x.act(0, 4);
        x.act(2, 0);
        x.days(1);
        DUE.is("of(0, 3)", x.of(0, 3), 3);
        DUE.is("of(0, 4): the fourth MILE was BROKEN", x.of(0, 4), 0);
        line(x, 2, 0, 4, 0, 3);
    }

    private static void backByAGap() {
        DUE.promise(8);
        PierTooFar x = new PierTooFar();
        x.walker(4, 6, 0);
        x.set(1, 0, 60);
        x.act(2, 0);
        x.days(2);
        DUE.is("of(0, 3)", x.of(0, 3), 8);
        x.act(0, 6);
        x.days(1);
        DUE.is("of(0, 3): stays behind the gap", x.of(0, 3), 7);
        int lines = x.look(9);
        x.days(1);
        DUE.is("of(0, 3)", x.of(0, 3), 7);
        DUE.is("look(9): no line for staying", x.look(9), lines);
        x.act(1, 6);
        x.days(1);
        DUE.is("of(0, 3)", x.of(0, 3), 3);
        DUE.is("days(1): from MILE 3 by four", x.days(1), 1);
        DUE.is("look(6)", x.look(6), 0);
    }

    private static void lost() {
        DUE.promise(8);
        PierTooFar x = new PierTooFar();
        x.walker(4, 4, 0);
        x.set(1, 0, 60);
        x.act(2, 0);
        x.days(1);
        x.act(0, 1);
        DUE.is("days(2)", x.days(2), 0);
        DUE.is("of(0, 3)", x.of(0, 3), 2);
        DUE.is("of(0, 5)", x.of(0, 5), 1);
        DUE.is("look(6)", x.look(6), 0);
        DUE.is("days(1)", x.days(1), 0);
        DUE.is("of(0, 3)", x.of(0, 3), -1);
        DUE.is("of(0, 4)", x.of(0, 4), 0);
        DUE.is("of(0, 5)", x.of(0, 5), 0);
        DUE.is("look(6)", x.look(6), 1);
        DUE.is("look(7)", x.look(7), 0);
        line(x, x.look(9) - 1, 0, 6, 0, 2);
    }

    private static void oneDayOnly() {
        DUE.promise(8);
        PierTooFar x = new PierTooFar();
        x.walker(1, 1, 0);
        x.set(1, 0, 60);
        x.act(2, 0);
        DUE.is("days(1): home from MILE 0 on the last day", x.days(1), 1);
        line(x, 1, 0, 4, 0, 0);
        line(x, 2, 0, 5, 0, 0);
        DUE.is("look(6)", x.look(6), 0);
    }

    private static void walksOfNone() {
        DUE.promise(8);
        PierTooFar x = new PierTooFar();
        Due.tell(x, 0, "walks 0 when left<3;walks 2;");
        x.walker(1, 4, 0);
        x.set(1, 0, 60);
        x.act(2, 0);
        x.days(1);
        DUE.is("of(0, 3)", x.of(0, 3), 2);
        x.days(1);
        DUE.is("of(0, 3): asked when LEFT is 2", x.of(0, 3), 2);
        DUE.is("of(0, 4)", x.of(0, 4), 0);
        DUE.is("days(2)", x.days(2), 0);
        DUE.is("look(6)", x.look(6), 1);
        Due.tell(x, 0, "walks 3 when mile=0;walks 30;");
        x.set(3, 0, 9);
        x.act(2, 0);
        x.days(1);
        DUE.is("of(0, 3): asked once, at MILE 0", x.of(0, 3), 3);
        x.days(1);
        DUE.is("of(0, 3): 20 at most", x.of(0, 3), 23);
    }

    private static void settingOff() {
        DUE.promise(8);
        PierTooFar x = new PierTooFar();
        x.walker(2, 9, 0);
        x.walker(3, 7, 0);
        x.set(1, 0, 60);
        Due.tell(x, 3, "on 1 1;on 0 1;on 1 0;on 1 1;");
        x.days(1);
        DUE.is("of(1, 3): walks on the DAY on which he sets off", x.of(1, 3), 3);
        DUE.is("of(1, 5)", x.of(1, 5), 6);
        DUE.is("of(0, 3)", x.of(0, 3), -1);
        x.days(1);
        DUE.is("of(1, 3): not ashore, so he goes on", x.of(1, 3), 6);
        DUE.is("of(1, 5)", x.of(1, 5), 5);
        DUE.is("of(0, 3)", x.of(0, 3), 2);
        DUE.is("of(0, 5)", x.of(0, 5), 8);
        DUE.is("look(9)", x.look(9), 2);
        line(x, 0, 0, 3, 1, 0);
        line(x, 1, 0, 3, 0, 1);
        DUE.is("look(7)", x.look(7), 3);
    }

    private static void settingWaits() {
        DUE.promise(8);
        PierTooFar x = new PierTooFar();
        x.walker(2, 9, 0);
        Due.tell(x, 3, "on 0 0;on 1 0;on 2 0;");
        x.days(1);
        DUE.is("look(7): no pier", x.look(7), 0);
        x.set(1, 0, 10);
        x.act(0, 0);
        x.days(1);
        DUE.is("look(7): MILE 0 is BROKEN", x.look(7), 0);
        DUE.is("look(9)", x.look(9), 1);
        x.act(1, 0);
        x.days(1);
        DUE.is("look(7)", x.look(7), 1);
        line(x, 2, 0, 3, 0, 2);
    }

    private static void beyondTheEnd() {
        DUE.promise(8);
        PierTooFar x = new PierTooFar();
        x.walker(5, 20, 0);
        x.set(1, 0, 60);
        x.act(2, 0);
        x.days(2);
        DUE.is("of(0, 3)", x.of(0, 3), 10);
        x.set(1, 0, 10);
        x.days(1);
        DUE.is("of(0, 3): no MILE ahead", x.of(0, 3), 10);
        DUE.is("of(0, 4)", x.of(0, 4), 0);
        x.days(1);
        DUE.is("of(0, 3): MILE 9 is there", x.of(0, 3), 5);
        x.set(1, 0, 0);
        x.days(1);
        DUE.is("of(0, 3): MILE 4 is none", x.of(0, 3), 5);
    }

    private static void byWalkers() {
        DUE.promise(8);
        PierTooFar x = new PierTooFar();
        for (int w = 0; w < 12; w++) {
            x.walker(1, 1, 0);
        }
        x.set(1, 0, 10);
        for (int w = 11; w >= 0; w--) {
            x.act(2, w);
        }
        x.years(3);
        DUE.is("days(3): all come home", x.days(3), 12);
        for (int w = 0; w < 12; w++) {
            line(x, 12 + 2 * w, 3, 4, w, 0);
            line(x, 13 + 2 * w, 3, 5, w, 0);
        }
    }

    private static void bookIsFull() {
        DUE.promise(16);
        PierTooFar x = new PierTooFar();
        x.set(1, 0, 100);
        for (int i = 0; i < 75; i++) {
            x.act(0, i);
            x.act(1, i);
        }
        DUE.is("look(9)", x.look(9), 150);
        line(x, 149, 0, 2, 74, 100);
        DUE.is("owns(1, 0)", x.owns(1, 0), 1);
        DUE.yes("act(0, 5)", x.act(0, 5));
        DUE.is("look(9): no more", x.look(9), 150);
        line(x, 149, 0, 2, 74, 100);
        DUE.is("book(150, 0)", x.book(150, 0), -1);
        DUE.is("book(-1, 0)", x.book(-1, 0), -1);
        DUE.is("book(0, 4)", x.book(0, 4), -1);
        DUE.is("book(0, -1)", x.book(0, -1), -1);
        for (int i = 0; i < 3; i++) {
            x.undo();
        }
        DUE.is("look(9) behind undo()", x.look(9), 149);
        DUE.is("book(149, 0)", x.book(149, 0), -1);
        x.owns(3, 30);
        line(x, 149, 0, 0, 3, 4);
    }
}
