/** Promises 17 to 37: what is told for thought, and what is answered in thought. */
public final class ThoughtTest {
    private static final Due DUE = new Due("ThoughtTest");

    public static void main(String[] args) {
        goes();
        goesByDeeds();
        goesBreaks();
        far();
        farByTheLaw();
        farNowhere();
        next();
        want();
        serves();
        servesWithPlaces();
        boats();
        boatsOfMany();
        talk();
        said();
        did();
        fits();
        asks();
        deed();
        ownsUp();
        price();
        prices();
        lamp();
        prefix();
        reads();
        odds();
        strength();
        strengthCompared();
        sleeps();
        sleepsOnTheWay();
        meets();
        meetsLater();
        game();
        nothingStays();
        refusedTellings();
        DUE.close();
    }

    private static void goes() {
        DUE.promise(17);
        PierTooFar x = new PierTooFar();
        DUE.is("goes(0, 0)", x.goes(0, 0), -1);
        DUE.is("goes(61, 0)", x.goes(61, 0), -1);
        DUE.is("goes(-1, 1)", x.goes(-1, 1), -1);
        DUE.is("goes(1, 2)", x.goes(1, 2), -1);
        DUE.is("goes(1, -1)", x.goes(1, -1), -1);
        DUE.is("goes(60, 0)", x.goes(60, 0), 0);
        x.set(1, 0, 50);
        x.act(0, 3);
        DUE.is("goes(1, 0)", x.goes(1, 0), 50);
        DUE.is("goes(1, 1)", x.goes(1, 1), 1);
    }

    private static void goesByDeeds() {
        DUE.promise(17);
        PierTooFar x = new PierTooFar();
        x.years(2);
        Due.tell(x, 0, "shame long+year+deed;");
        Due.tell(x, 1, "in 1 deed 5 bad 5;in 2 deed 1 bad 1;in 4 deed 2 bad 1;");
        DUE.is("goes(1, 0)", x.goes(1, 0), 3);
        DUE.is("goes(2, 0)", x.goes(2, 0), 3);
        DUE.is("goes(3, 0): 3 and 4 and 2 more", x.goes(3, 0), 12);
        DUE.is("goes(60, 0)", x.goes(60, 0), 12);
        x.set(1, 0, 199);
        DUE.is("goes(60, 0): 200 at most", x.goes(60, 0), 200);
    }

    private static void goesBreaks() {
        DUE.promise(17);
        PierTooFar x = new PierTooFar();
        x.state(99);
        x.set(1, 0, 61);
        Due.tell(x, 0, "storm 499 when mile=20;storm 500 when mile>20;storm 0 when year=0;storm 1000;");
        DUE.is("goes(1, 1): the third and the fourth part", x.goes(1, 1), 2);
        DUE.is("goes(2, 1): the first one, too", x.goes(2, 1), 3);
        DUE.is("goes(60, 1): only first MILES", x.goes(60, 1), 3);
        x.act(0, 40);
        DUE.is("goes(1, 1): MILE 40 is BROKEN already", x.goes(1, 1), 2);
        x.set(1, 0, 60);
        DUE.is("goes(1, 1): no MILE 60", x.goes(1, 1), 1);
        DUE.is("look(10)", x.look(10), 99);
    }

    private static void far() {
        DUE.promise(18);
        PierTooFar x = new PierTooFar();
        x.walker(3, 10, 0);
        x.walker(3, 1, 0);
        x.walker(9, 2, 0);
        x.set(1, 0, 200);
        DUE.is("far(0, 0)", x.far(0, 0), 12);
        DUE.is("far(0, 1)", x.far(0, 1), 1);
        DUE.is("far(1, 0): MILE 0 alone", x.far(1, 0), 0);
        DUE.is("far(1, 1)", x.far(1, 1), 1);
        DUE.is("far(2, 0): on the first day LEFT is 1, half of 2", x.far(2, 0), 0);
        DUE.is("far(3, 0)", x.far(3, 0), -1);
        DUE.is("far(-1, 0)", x.far(-1, 0), -1);
        DUE.is("far(0, 2)", x.far(0, 2), -1);
        DUE.is("far(0, -1)", x.far(0, -1), -1);
        x.set(1, 0, 8);
        DUE.is("far(0, 0) to the end", x.far(0, 0), 7);
        x.act(0, 5);
        DUE.is("far(0, 0) to the gap", x.far(0, 0), 4);
        DUE.is("far(0, 1)", x.far(0, 1), 1);
        x.act(2, 0);
        x.days(1);
        DUE.is("far(0, 0) of one on the pier", x.far(0, 0), 4);
        DUE.is("of(0, 3)", x.of(0, 3), 3);
        DUE.is("of(0, 5)", x.of(0, 5), 9);
    }

    private static void farByTheLaw() {
        DUE.promise(18);
        PierTooFar x = new PierTooFar();
        x.walker(1, 6, 0);
        x.set(1, 0, 200);
        Due.tell(x, 0, "walks 5 when left>2;walks 1;");
        DUE.is("far(0, 0)", x.far(0, 0), 10);
        DUE.is("far(0, 1): too slow on the way back", x.far(0, 1), 0);
        DUE.is("look(6)", x.look(6), 0);
        Due.tell(x, 0, "walks 7 when mile=0 and left=5;walks 4;");
        DUE.is("far(0, 0): 7 and 4", x.far(0, 0), 11);
        DUE.is("far(0, 1): 7, 3, home", x.far(0, 1), 1);
        Due.tell(x, 0, "walks 0;");
        DUE.is("far(0, 0)", x.far(0, 0), 0);
        DUE.is("far(0, 1)", x.far(0, 1), 0);
        Due.tell(x, 0, "walks 3 when left>2;walks 4 when left=2;walks 2;");
        DUE.is("far(0, 0): 3, 6, back 3, 4 more, so home", x.far(0, 0), 6);
        DUE.is("far(0, 1)", x.far(0, 1), 1);
        Due.tell(x, 0, "walks 3 when left>2;walks 0 when left>0;walks 3;");
        DUE.is("far(0, 1): lost at MILE 0 on the last day", x.far(0, 1), 0);
        Due.tell(x, 0, "walks 3 when left>2;walks 0 when left>0;walks 4;");
        DUE.is("far(0, 1): home on the last day", x.far(0, 1), 1);
    }

    private static void farNowhere() {
        DUE.promise(18);
        PierTooFar x = new PierTooFar();
        x.walker(3, 10, 0);
        DUE.is("far(0, 0) without a pier", x.far(0, 0), -1);
        DUE.is("far(0, 1)", x.far(0, 1), 0);
        x.set(1, 0, 9);
        x.act(0, 0);
        DUE.is("far(0, 0), MILE 0 being BROKEN", x.far(0, 0), -1);
        DUE.is("far(0, 1)", x.far(0, 1), 0);
    }

    private static void next() {
        DUE.promise(19);
        PierTooFar x = new PierTooFar();
        DUE.is("next(0)", x.next(0), -1);
        Due.tell(x, 2, "kiosk 20;bed 11;kiosk 10;kiosk 50;");
        DUE.is("next(0): all beyond LONG", x.next(0), -1);
        x.set(1, 0, 50);
        DUE.is("next(0)", x.next(0), 10);
        DUE.is("next(15): of two the least", x.next(15), 10);
        DUE.is("next(16)", x.next(16), 20);
        DUE.is("next(14)", x.next(14), 10);
        DUE.is("next(20)", x.next(20), 20);
        DUE.is("next(199): 50 is not below LONG", x.next(199), 20);
        DUE.is("next(200)", x.next(200), -1);
        DUE.is("next(-1)", x.next(-1), -1);
        x.set(1, 0, 51);
        DUE.is("next(199)", x.next(199), 50);
        x.act(0, 50);
        DUE.is("next(199), BROKEN or not", x.next(199), 50);
        Due.tell(x, 2, "kiosk 10;kiosk 20;");
        DUE.is("next(15) in another order", x.next(15), 10);
    }

    private static void want() {
        DUE.promise(20);
        PierTooFar x = new PierTooFar();
        for (int i = 1; i <= 20; i++) {
            DUE.is("want(0, 5)", x.want(0, 5), i);
        }
        DUE.is("the 21st want", x.want(0, 6), -1);
        for (int i = 1; i <= 10; i++) {
            DUE.is("want(1, 199)", x.want(1, 199), i);
        }
        DUE.is("the 11th site", x.want(1, 6), -1);
        DUE.is("want(2, 5)", x.want(2, 5), -1);
        DUE.is("want(-1, 5)", x.want(-1, 5), -1);
        DUE.is("want(2, -1)", x.want(2, -1), -1);
        DUE.is("want(0, -1)", x.want(0, -1), 0);
        DUE.is("want(0, 200)", x.want(0, 200), -1);
        DUE.is("want(0, -2)", x.want(0, -2), -1);
        DUE.is("want(0, 0)", x.want(0, 0), 1);
        DUE.is("want(1, 0): the sites stay", x.want(1, 0), -1);
        DUE.is("want(1, -1)", x.want(1, -1), 0);
        DUE.is("want(1, 200)", x.want(1, 200), -1);
        DUE.is("want(0, 1): the WANTS stay", x.want(0, 1), 2);
    }

    private static void serves() {
        DUE.promise(21);
        PierTooFar x = new PierTooFar();
        x.want(1, 10);
        x.want(1, 100);
        x.want(1, 21);
        DUE.is("serves(1, 0) without WANTS", x.serves(1, 0), 0);
        DUE.is("serves(1, 1) without WANTS", x.serves(1, 1), 0);
        x.want(0, 20);
        x.want(0, 31);
        x.want(0, 0);
        x.want(0, 90);
        x.want(0, 111);
        DUE.is("serves(1, 0)", x.serves(1, 0), 2);
        DUE.is("serves(1, 1): 0 and 20 by the first, 20 and 31 by the third", x.serves(1, 1), 1);
        DUE.is("serves(2, 0)", x.serves(2, 0), 3);
        DUE.is("serves(2, 1)", x.serves(2, 1), 3);
        DUE.is("serves(3, 0)", x.serves(3, 0), 4);
        DUE.is("serves(3, 1)", x.serves(3, 1), 7);
        DUE.is("serves(6, 1): no more than needed", x.serves(6, 1), 7);
        DUE.is("serves(0, 0)", x.serves(0, 0), -1);
        DUE.is("serves(7, 0)", x.serves(7, 0), -1);
        DUE.is("serves(1, 2)", x.serves(1, 2), -1);
        DUE.is("serves(1, -1)", x.serves(1, -1), -1);
        x.want(0, -1);
        x.want(0, 30);
        x.want(0, 30);
        DUE.is("serves(1, 0): told twice, counted twice", x.serves(1, 0), 2);
        DUE.is("serves(1, 1)", x.serves(1, 1), 4);
    }

    private static void servesWithPlaces() {
        DUE.promise(21);
        PierTooFar x = new PierTooFar();
        Due.tell(x, 2, "kiosk 50;kiosk 80;bed 150;");
        x.set(1, 0, 80);
        x.want(0, 40);
        x.want(0, 60);
        x.want(0, 61);
        x.want(0, 85);
        x.want(0, 150);
        DUE.is("serves(3, 0): by the kiosk at 50 alone", x.serves(3, 0), 2);
        DUE.is("serves(3, 1)", x.serves(3, 1), 0);
        x.want(1, 50);
        x.want(1, 71);
        DUE.is("serves(1, 0)", x.serves(1, 0), 3);
        DUE.is("serves(1, 1): 50 serves no more", x.serves(1, 1), 2);
        x.set(1, 0, 81);
        DUE.is("serves(1, 0): the kiosk at 80, too", x.serves(1, 0), 4);
        x.want(1, 160);
        DUE.is("serves(6, 1): one of 71, one of 160", x.serves(6, 1), 6);
        DUE.is("serves(1, 1): of two the least", x.serves(1, 1), 2);
    }

    private static void boats() {
        DUE.promise(22);
        PierTooFar x = new PierTooFar();
        DUE.is("boats(0)", x.boats(0), -1);
        DUE.is("boats(10)", x.boats(10), -1);
        DUE.is("boats(-1)", x.boats(-1), -1);
        DUE.is("boats(1): nothing BROKEN", x.boats(1), 0);
        for (int w = 0; w < 3; w++) {
            x.walker(w + 2, 20, 0);
        }
        x.set(1, 0, 100);
        x.act(2, 0);
        x.act(2, 1);
        x.days(1);
        DUE.is("boats(1): nothing BROKEN", x.boats(1), 0);
        x.act(0, 3);
        DUE.is("boats(1): nobody above MILE 3", x.boats(1), 0);
        x.act(0, 2);
        DUE.is("boats(1): one above MILE 2, one at it", x.boats(1), 1);
        x.act(0, 1);
        DUE.is("boats(1): two above MILE 1", x.boats(1), -1);
        DUE.is("boats(2)", x.boats(2), 1);
        DUE.is("boats(9)", x.boats(9), 1);
        DUE.is("boats(10)", x.boats(10), -1);
    }

    private static void boatsOfMany() {
        DUE.promise(22);
        PierTooFar x = new PierTooFar();
        x.set(1, 0, 100);
        for (int w = 0; w < 12; w++) {
            x.walker(5, 30, 0);
        }
        for (int w = 0; w < 12; w++) {
            x.act(2, w);
        }
        x.days(1);
        x.act(0, 0);
        DUE.is("boats(1)", x.boats(1), -1);
        int[] due = {21, 11, 7, 5, 5, 3, 3, 3};
        for (int c = 2; c <= 9; c++) {
            DUE.is("boats(" + c + ") for twelve", x.boats(c), due[c - 2]);
        }
    }

    private static void talk() {
        DUE.promise(23);
        PierTooFar x = new PierTooFar();
        DUE.is("talk(10, 0, 0)", x.talk(10, 0, 0), -1);
        DUE.is("talk(-1, 0, 0)", x.talk(-1, 0, 0), -1);
        DUE.is("talk(0, 10, 0)", x.talk(0, 10, 0), -1);
        DUE.is("talk(0, -1, 0)", x.talk(0, -1, 0), -1);
        DUE.is("talk(0, 0, 200)", x.talk(0, 0, 200), -1);
        DUE.is("talk(0, 0, -2)", x.talk(0, 0, -2), -1);
        for (int i = 1; i <= 16; i++) {
            DUE.is("talk(9, 0, 199)", x.talk(9, 0, 199), i);
        }
        DUE.is("the 17th couple", x.talk(9, 0, 199), -1);
        DUE.is("said(9, 199, 0)", x.said(9, 199, 0), 0);
        DUE.is("talk(9, 0, -1)", x.talk(9, 0, -1), 0);
        DUE.is("said(9, 199, 0)", x.said(9, 199, 0), 9);
        DUE.is("talk(0, 9, 0)", x.talk(0, 9, 0), 1);
        DUE.is("said(0, 0, 0)", x.said(0, 0, 0), 9);
    }

    private static void said() {
        DUE.promise(24);
        PierTooFar x = new PierTooFar();
        x.talk(1, 2, 10);
        x.talk(2, 3, 20);
        x.talk(3, 1, 5);
        x.talk(1, 4, 30);
        DUE.is("said(1, 9, 0)", x.said(1, 9, 0), 1);
        DUE.is("said(1, 10, 0)", x.said(1, 10, 0), 2);
        DUE.is("said(1, 20, 0)", x.said(1, 20, 0), 1);
        DUE.is("said(1, 30, 0)", x.said(1, 30, 0), 4);
        DUE.is("said(3, 4, 0)", x.said(3, 4, 0), 3);
        DUE.is("said(3, 5, 0)", x.said(3, 5, 0), 1);
        DUE.is("said(2, 19, 0)", x.said(2, 19, 0), 2);
        DUE.is("said(2, 199, 0)", x.said(2, 199, 0), 4);
        DUE.is("said(-1, 0, 0)", x.said(-1, 0, 0), 0);
        DUE.is("said(-1, 0, 5)", x.said(-1, 0, 5), 1);
        DUE.is("said(-1, 5, 0)", x.said(-1, 5, 0), 1);
        DUE.is("said(-1, 0, 10)", x.said(-1, 0, 10), 2);
        DUE.is("said(-1, 20, 0): 2 and 3 otherwise", x.said(-1, 20, 0), 2);
        DUE.is("said(-1, 199, 0)", x.said(-1, 199, 0), 3);
        DUE.is("said(-1, 199, 20)", x.said(-1, 199, 20), 3);
        DUE.is("said(10, 0, 0)", x.said(10, 0, 0), -1);
        DUE.is("said(-2, 0, 0)", x.said(-2, 0, 0), -1);
        DUE.is("said(0, 200, 0)", x.said(0, 200, 0), -1);
        DUE.is("said(0, -1, 0)", x.said(0, -1, 0), -1);
        DUE.is("said(-1, 0, 200)", x.said(-1, 0, 200), -1);
        DUE.is("said(-1, 0, -1)", x.said(-1, 0, -1), -1);
        DUE.is("said(-1, 200, 0)", x.said(-1, 200, 0), -1);
    }

    private static void did() {
        DUE.promise(25);
        PierTooFar x = new PierTooFar();
        DUE.is("did(12, 0)", x.did(12, 0), -1);
        DUE.is("did(-2, 0)", x.did(-2, 0), -1);
        DUE.is("did(0, 201)", x.did(0, 201), -1);
        DUE.is("did(0, -1)", x.did(0, -1), -1);
        for (int i = 1; i <= 12; i++) {
            DUE.is("did(11, 200)", x.did(11, 200), i);
        }
        DUE.is("the 13th told length", x.did(0, 3), -1);
        DUE.is("did(-1, 999)", x.did(-1, 999), 0);
        DUE.is("did(0, 0)", x.did(0, 0), 1);
    }

    private static void fits() {
        DUE.promise(26);
        PierTooFar x = new PierTooFar();
        DUE.is("fits(2)", x.fits(2), -1);
        DUE.is("fits(-1)", x.fits(-1), -1);
        DUE.is("fits(0): six to the twelfth", x.fits(0), 2176782336L % 1000000007L);
        x.did(0, 18);
        DUE.is("fits(0): six to the eleventh", x.fits(0), 362797056);
        x.did(0, 18);
        DUE.is("fits(0): told twice", x.fits(0), 362797056);
        x.did(1, 21);
        DUE.is("fits(0)", x.fits(0), 60466176);
        x.did(1, 22);
        DUE.is("fits(0)", x.fits(0), 0);
        x.did(-1, 0);
        x.did(0, 2);
        DUE.is("fits(0): no deed adds 2", x.fits(0), 0);
        x.did(-1, 0);
        x.did(1, 12);
        DUE.is("fits(0): 3 9, 6 6, 9 3", x.fits(0), 3 * 60466176);
        x.did(-1, 0);
        x.did(11, 200);
        DUE.is("fits(0): 201 and more in all, or twelve of 18 less 15", x.fits(0), atLeast67());
        x.did(10, 197);
        DUE.is("fits(0): 197 is no threefold", x.fits(0), 0);
    }

    /** Twelve numbers 1 .. 6 with 67 or more in all: twelve 0 .. 5 missing 5 at most. */
    private static long atLeast67() {
        long[] ways = new long[6];
        ways[0] = 1;
        for (int i = 0; i < 12; i++) {
            long[] more = new long[6];
            for (int missing = 0; missing < 6; missing++) {
                for (int its = 0; its <= missing; its++) {
                    more[missing] += ways[missing - its];
                }
            }
            ways = more;
        }
        long sum = 0;
        for (long way : ways) {
            sum += way;
        }
        return sum;
    }

    private static void asks() {
        DUE.promise(26);
        PierTooFar x = new PierTooFar();
        DUE.is("fits(1): the spread is widest at the end", x.fits(1), 11);
        x.did(11, 36);
        DUE.is("fits(1): one way, the least YEAR", x.fits(1), 0);
        x.did(-1, 0);
        x.did(11, 39);
        DUE.is("fits(0): twelve ways", x.fits(0), 12);
        DUE.is("fits(1): behind 5 six of them are longer", x.fits(1), 5);
        x.did(-1, 0);
        x.did(11, 200);
        x.did(10, 180);
        DUE.is("fits(0): 18 more are too few", x.fits(0), 0);
        x.did(-1, 0);
        x.did(11, 200);
        x.did(10, 195);
        DUE.is("fits(0): eleven missing 1, behind them 2 .. 6", x.fits(0), 55);
        x.did(9, 7);
        DUE.is("fits(1): no way", x.fits(1), -1);
    }

    private static void deed() {
        DUE.promise(27);
        PierTooFar x = new PierTooFar();
        DUE.is("deed(100, 0)", x.deed(100, 0), -1);
        DUE.is("deed(-2, 0)", x.deed(-2, 0), -1);
        DUE.is("deed(0, 10)", x.deed(0, 10), -1);
        DUE.is("deed(0, -1)", x.deed(0, -1), -1);
        for (int i = 1; i <= 10; i++) {
            DUE.is("deed(99, 9)", x.deed(99, 9), i);
        }
        DUE.is("the 11th deed", x.deed(1, 1), -1);
        DUE.is("ownsUp(0, 0)", x.ownsUp(0, 0), 990);
        DUE.is("deed(-1, 77)", x.deed(-1, 77), 0);
        DUE.is("deed(0, 0)", x.deed(0, 0), 1);
    }

    private static void ownsUp() {
        DUE.promise(28);
        PierTooFar x = new PierTooFar();
        DUE.is("ownsUp(0, 1) of none", x.ownsUp(0, 1), 0);
        x.deed(10, 4);
        x.deed(3, 4);
        x.deed(5, 2);
        x.deed(0, 9);
        x.deed(8, 0);
        DUE.is("ownsUp(19, 0)", x.ownsUp(19, 0), 0);
        DUE.is("ownsUp(19, 1)", x.ownsUp(19, 1), 0);
        DUE.is("ownsUp(18, 1): worth nothing, so owned to", x.ownsUp(18, 1), 8);
        DUE.is("ownsUp(10, 1)", x.ownsUp(10, 1), 8);
        DUE.is("ownsUp(9, 0)", x.ownsUp(9, 0), 3);
        DUE.is("ownsUp(9, 1)", x.ownsUp(9, 1), 10);
        DUE.is("ownsUp(5, 0)", x.ownsUp(5, 0), 8);
        DUE.is("ownsUp(5, 1)", x.ownsUp(5, 1), 14);
        DUE.is("ownsUp(0, 0)", x.ownsUp(0, 0), 18);
        DUE.is("ownsUp(0, 1): the last hides nothing", x.ownsUp(0, 1), 15);
        DUE.is("ownsUp(-1, 0)", x.ownsUp(-1, 0), -1);
        DUE.is("ownsUp(41, 0)", x.ownsUp(41, 0), -1);
        DUE.is("ownsUp(40, 0)", x.ownsUp(40, 0), 0);
        DUE.is("ownsUp(0, 2)", x.ownsUp(0, 2), -1);
        DUE.is("ownsUp(0, -1)", x.ownsUp(0, -1), -1);
        x.deed(-1, 0);
        x.deed(6, 3);
        x.deed(2, 1);
        x.deed(4, 2);
        DUE.is("ownsUp(3, 0): the first, or the two others", x.ownsUp(3, 0), 6);
        DUE.is("ownsUp(3, 1): the least, not the latest", x.ownsUp(3, 1), 1);
        x.deed(-1, 0);
        x.deed(2, 1);
        x.deed(4, 2);
        x.deed(6, 3);
        DUE.is("ownsUp(3, 1): the least, not the fewest", x.ownsUp(3, 1), 3);
    }

    private static void price() {
        DUE.promise(29);
        PierTooFar x = new PierTooFar();
        DUE.is("price(0)", x.price(0), -1);
        DUE.is("price(100)", x.price(100), -1);
        DUE.is("price(-2)", x.price(-2), -1);
        DUE.is("price(1)", x.price(1), 1);
        DUE.is("price(99)", x.price(99), 2);
        for (int i = 3; i <= 8; i++) {
            DUE.is("price(9)", x.price(9), i);
        }
        DUE.is("the ninth price", x.price(9), -1);
        DUE.is("prices(0)", x.prices(0), 540);
        DUE.is("price(-1)", x.price(-1), 0);
        DUE.is("price(4)", x.price(4), 1);
    }

    private static void prices() {
        DUE.promise(30);
        PierTooFar x = new PierTooFar();
        DUE.is("prices(0)", x.prices(0), 0);
        DUE.is("prices(1)", x.prices(1), 0);
        DUE.is("prices(2)", x.prices(2), -1);
        DUE.is("prices(-1)", x.prices(-1), -1);
        x.price(7);
        DUE.is("prices(0)", x.prices(0), 0);
        DUE.is("prices(1)", x.prices(1), 7);
        x.price(4);
        x.price(7);
        x.price(9);
        x.price(2);
        DUE.is("prices(0)", x.prices(0), 10);
        DUE.is("prices(1)", x.prices(1), 9);
    }

    private static void lamp() {
        DUE.promise(31);
        PierTooFar x = new PierTooFar();
        DUE.no("lamp(8, 1, 0)", x.lamp(8, 1, 0));
        DUE.no("lamp(-1, 1, 0)", x.lamp(-1, 1, 0));
        DUE.no("lamp(0, 6, 0)", x.lamp(0, 6, 0));
        DUE.no("lamp(0, -1, 0)", x.lamp(0, -1, 0));
        DUE.no("lamp(0, 2, 4)", x.lamp(0, 2, 4));
        DUE.no("lamp(0, 2, -1)", x.lamp(0, 2, -1));
        DUE.is("reads(5, 31)", x.reads(5, 31), 0);
        DUE.yes("lamp(0, 5, 31)", x.lamp(0, 5, 31));
        DUE.yes("lamp(7, 1, 1)", x.lamp(7, 1, 1));
        DUE.is("reads(5, 31)", x.reads(5, 31), 2);
        DUE.yes("lamp(0, 1, 1)", x.lamp(0, 1, 1));
        DUE.is("reads(5, 31)", x.reads(5, 31), 32);
        DUE.yes("lamp(7, 0, 0)", x.lamp(7, 0, 0));
        DUE.is("reads(5, 31)", x.reads(5, 31), 1);
    }

    private static void prefix() {
        DUE.promise(32);
        PierTooFar x = new PierTooFar();
        DUE.is("reads(-1, 0)", x.reads(-1, 0), 0);
        x.lamp(0, 1, 0);
        DUE.is("reads(-1, 0): one word", x.reads(-1, 0), 0);
        x.lamp(1, 2, 2);
        DUE.is("reads(-1, 0): 0 begins 01", x.reads(-1, 0), 1);
        x.lamp(2, 2, 1);
        DUE.is("reads(-1, 0): 10 begins nothing", x.reads(-1, 0), 1);
        x.lamp(3, 2, 1);
        DUE.is("reads(-1, 0): equal ones", x.reads(-1, 0), 2);
        x.lamp(7, 5, 5);
        DUE.is("reads(-1, 0): both 10 begin 10100", x.reads(-1, 0), 4);
        x.lamp(0, 0, 0);
        DUE.is("reads(-1, 99)", x.reads(-1, 99), 3);
    }

    private static void reads() {
        DUE.promise(32);
        PierTooFar x = new PierTooFar();
        DUE.is("reads(0, 0)", x.reads(0, 0), 1);
        DUE.is("reads(11, 0)", x.reads(11, 0), -1);
        DUE.is("reads(-2, 0)", x.reads(-2, 0), -1);
        DUE.is("reads(3, 8)", x.reads(3, 8), -1);
        DUE.is("reads(3, -1)", x.reads(3, -1), -1);
        x.lamp(0, 1, 0);
        x.lamp(1, 2, 1);
        x.lamp(2, 3, 6);
        DUE.is("reads(0, 0)", x.reads(0, 0), 1);
        DUE.is("reads(1, 0)", x.reads(1, 0), 1);
        DUE.is("reads(1, 1)", x.reads(1, 1), 0);
        DUE.is("reads(2, 1): the first lamp is bit 0", x.reads(2, 1), 1);
        DUE.is("reads(2, 2)", x.reads(2, 2), 0);
        DUE.is("reads(3, 6)", x.reads(3, 6), 1);
        DUE.is("reads(4, 6)", x.reads(4, 6), 1);
        DUE.is("reads(10, 0)", x.reads(10, 0), 1);
        for (int word = 0; word < 8; word++) {
            x.lamp(word, 1, 1);
        }
        DUE.is("reads(10, 1023): eight to the tenth", x.reads(10, 1023), 1073741824);
        DUE.is("reads(10, 1022)", x.reads(10, 1022), 0);
    }

    private static void odds() {
        DUE.promise(33);
        PierTooFar x = new PierTooFar();
        DUE.no("odds(10, 0)", x.odds(10, 0));
        DUE.no("odds(-1, 0)", x.odds(-1, 0));
        DUE.no("odds(0, 101)", x.odds(0, 101));
        DUE.no("odds(0, -1)", x.odds(0, -1));
        DUE.is("strength(0, 1)", x.strength(0, 1), 1000000);
        DUE.yes("odds(0, 100)", x.odds(0, 100));
        DUE.is("strength(0, 1)", x.strength(0, 1), 0);
        DUE.yes("odds(0, 0)", x.odds(0, 0));
        DUE.yes("odds(9, 1)", x.odds(9, 1));
        DUE.is("strength(0, 1)", x.strength(0, 1), 990000);
    }

    private static void strength() {
        DUE.promise(34);
        PierTooFar x = new PierTooFar();
        DUE.is("strength(-1, 0)", x.strength(-1, 0), -1);
        DUE.is("strength(6, 0)", x.strength(6, 0), -1);
        DUE.is("strength(0, 2)", x.strength(0, 2), -1);
        DUE.is("strength(0, -1)", x.strength(0, -1), -1);
        x.odds(0, 15);
        x.odds(3, 33);
        x.odds(4, 33);
        x.odds(9, 1);
        DUE.is("strength(0, 0)", x.strength(0, 0), 0);
        DUE.is("strength(0, 1): downwards part by part", x.strength(0, 1), 377749);
        DUE.is("strength(1, 0): of two the least", x.strength(1, 0), 8);
        DUE.is("strength(1, 1): 33 halves to 16", x.strength(1, 1), 473596);
        DUE.is("strength(2, 0)", x.strength(2, 0), 24);
        DUE.is("strength(3, 0)", x.strength(3, 0), 25);
        DUE.is("strength(4, 0)", x.strength(4, 0), 537);
        DUE.is("strength(5, 0): the fewest", x.strength(5, 0), 537);
        DUE.is("strength(5, 1)", x.strength(5, 1), 656208);
        x.odds(5, 100);
        x.odds(6, 100);
        DUE.is("strength(1, 0): 0 in any case", x.strength(1, 0), 0);
        DUE.is("strength(2, 0)", x.strength(2, 0), 96);
    }

    /** Two sets whose chances are alike in a million and differ in the product of all ten. */
    private static void strengthCompared() {
        DUE.promise(34);
        PierTooFar x = new PierTooFar();
        for (int part = 0; part < 10; part++) {
            x.odds(part, 98);
        }
        x.odds(9, 99);
        DUE.is("strength(0, 1)", x.strength(0, 1), 0);
        DUE.is("strength(1, 0): 51 for 1 is more than 51 for 2", x.strength(1, 0), 512);
        x.odds(4, 99);
        DUE.is("strength(1, 0)", x.strength(1, 0), 16);
        DUE.is("strength(2, 0)", x.strength(2, 0), 528);
        PierTooFar y = new PierTooFar();
        for (int part = 0; part < 10; part++) {
            y.odds(part, 1);
        }
        DUE.is("strength(1, 0): all alike", y.strength(1, 0), 1);
        DUE.is("strength(5, 0)", y.strength(5, 0), 31);
        y.odds(7, 2);
        DUE.is("strength(1, 0): 99 for 98 is more than 100 for 99", y.strength(1, 0), 128);
    }

    private static void sleeps() {
        DUE.promise(35);
        PierTooFar x = new PierTooFar();
        DUE.is("sleeps(1)", x.sleeps(1), 0);
        DUE.is("sleeps(0)", x.sleeps(0), -1);
        DUE.is("sleeps(41)", x.sleeps(41), -1);
        DUE.is("sleeps(-1)", x.sleeps(-1), -1);
        x.set(1, 0, 40);
        DUE.is("sleeps(40)", x.sleeps(40), 0);
        DUE.is("sleeps(39)", x.sleeps(39), -1);
        Due.tell(x, 2, "bed 29;bed 9;bed 19;kiosk 4;");
        DUE.is("sleeps(39)", x.sleeps(39), 1);
        DUE.is("sleeps(20)", x.sleeps(20), 1);
        DUE.is("sleeps(19)", x.sleeps(19), 3);
        DUE.is("sleeps(10)", x.sleeps(10), 3);
        DUE.is("sleeps(9)", x.sleeps(9), -1);
        x.act(0, 19);
        DUE.is("sleeps(20): by 9 and 29", x.sleeps(20), 2);
        DUE.is("sleeps(19)", x.sleeps(19), -1);
        x.act(1, 19);
        x.set(1, 0, 41);
        DUE.is("sleeps(10)", x.sleeps(10), -1);
        DUE.is("sleeps(11)", x.sleeps(11), 3);
    }

    private static void sleepsOnTheWay() {
        DUE.promise(35);
        PierTooFar x = new PierTooFar();
        x.set(1, 0, 100);
        Due.tell(x, 2, "bed 0;bed 39;bed 41;bed 80;bed 79;bed 60;bed 100;");
        DUE.is("sleeps(40): 40, 80, then 20", x.sleeps(40), 2);
        DUE.is("sleeps(39): 1, 40 is reached at 39, no 79", x.sleeps(39), 3);
        x.act(0, 5);
        DUE.is("sleeps(40): a gap on the way is no matter", x.sleeps(40), 2);
        x.set(1, 0, 40);
        DUE.is("sleeps(20)", x.sleeps(20), -1);
        x.set(1, 0, 39);
        DUE.is("sleeps(38)", x.sleeps(38), 1);
        Due.tell(x, 2, "bed 39;");
        DUE.is("sleeps(38): the bed is beyond LONG", x.sleeps(38), -1);
    }

    private static void meets() {
        DUE.promise(36);
        PierTooFar x = new PierTooFar();
        x.walker(2, 9, 0);
        x.walker(2, 20, 0);
        x.walker(2, 9, 0);
        x.set(1, 0, 60);
        DUE.is("meets(0, 1, 0): ashore both", x.meets(0, 1, 0), -1);
        Due.tell(x, 3, "on 2 0;on 2 1;");
        DUE.is("meets(0, 1, 0)", x.meets(0, 1, 0), 2);
        DUE.is("meets(1, 0, 1)", x.meets(1, 0, 1), 2);
        x.days(2);
        DUE.is("meets(0, 1, 0): behind one day", x.meets(0, 1, 0), 0);
        DUE.is("meets(0, 0, 0)", x.meets(0, 0, 0), -1);
        DUE.is("meets(0, 3, 0)", x.meets(0, 3, 0), -1);
        DUE.is("meets(3, 0, 0)", x.meets(3, 0, 0), -1);
        DUE.is("meets(-1, 0, 0)", x.meets(-1, 0, 0), -1);
        DUE.is("meets(0, -1, 0)", x.meets(0, -1, 0), -1);
        DUE.is("meets(0, 1, 2)", x.meets(0, 1, 2), -1);
        DUE.is("meets(0, 1, -1)", x.meets(0, 1, -1), -1);
        DUE.is("meets(0, 2, 0)", x.meets(0, 2, 0), -1);
        x.days(1);
        DUE.is("meets(0, 1, 1): from now, not from the shore", x.meets(0, 1, 1), 4);
        DUE.is("look(5)", x.look(5), 3);
        DUE.is("look(9)", x.look(9), 2);
    }

    private static void meetsLater() {
        DUE.promise(36);
        PierTooFar x = new PierTooFar();
        x.walker(2, 10, 0);
        x.walker(2, 10, 0);
        x.set(1, 0, 60);
        Due.tell(x, 3, "on 0 0;on 4 1;");
        DUE.is("meets(0, 1, 0): the one out, the other back", x.meets(0, 1, 0), 5);
        DUE.is("meets(0, 1, 1): 8, 6, 4 against 2, 4", x.meets(0, 1, 1), 4);
        PierTooFar y = new PierTooFar();
        y.walker(1, 5, 0);
        y.walker(1, 5, 0);
        y.set(1, 0, 60);
        Due.tell(y, 3, "on 30 0;on 30 1;");
        DUE.is("meets(0, 1, 0): the last DAY", y.meets(0, 1, 0), 30);
        Due.tell(y, 3, "on 31 0;on 31 1;");
        DUE.is("meets(0, 1, 0): a DAY later", y.meets(0, 1, 0), -1);
        y.days(1);
        DUE.is("meets(0, 1, 0)", y.meets(0, 1, 0), 30);
        DUE.is("meets(0, 1, 1)", y.meets(0, 1, 1), 1);
    }

    private static void game() {
        DUE.promise(37);
        PierTooFar x = new PierTooFar();
        DUE.is("game(0): no planks", x.game(0), -1);
        DUE.is("game(1)", x.game(1), -1);
        x.walker(4, 1, 0);
        DUE.is("game(0)", x.game(0), 0);
        DUE.is("game(1): 2 of 4 leave 2", x.game(1), 2);
        DUE.is("game(2)", x.game(2), -1);
        DUE.is("game(-1)", x.game(-1), -1);
        x.walker(4, 1, 0);
        DUE.is("game(0): all alike in couples", x.game(0), -1);
        x.walker(9, 1, 0);
        DUE.is("game(0): 9 is as good as none", x.game(0), -1);
        x.walker(8, 1, 0);
        DUE.is("game(0): 4 and 4 and 9 and 8", x.game(0), 2);
        DUE.is("game(1)", x.game(1), 1);
        x.set(2, 2, 8);
        DUE.is("game(0): 4 4 8 8", x.game(0), -1);
        x.set(2, 0, 3);
        DUE.is("game(0): of 4 one leaves 3", x.game(0), 1);
        DUE.is("game(1)", x.game(1), 1);
        PierTooFar y = new PierTooFar();
        y.walker(2, 1, 0);
        DUE.is("game(0): of 2 one is taken, the other one takes the last", y.game(0), -1);
        y.set(2, 0, 1);
        DUE.is("game(0)", y.game(0), 0);
        y.set(2, 0, 6);
        DUE.is("game(1): 1 or 2 of 6; 5 are lost, 4 are not", y.game(1), 1);
        y.set(2, 0, 7);
        DUE.is("game(0): 7", y.game(0), -1);
    }

    private static void nothingStays() {
        int[] promises = {17, 18, 36, 35, 22, 37, 21};
        for (int promise : promises) {
            DUE.promise(promise);
            PierTooFar x = onTheWay();
            long before = Due.seen(x);
            inThought(x, promise);
            DUE.is("all that is seen behind a thought", Due.seen(x), before);
        }
    }

    private static PierTooFar onTheWay() {
        PierTooFar x = new PierTooFar();
        x.state(4711);
        x.walker(3, 10, 1);
        x.walker(2, 9, 1);
        Due.tell(x, 0, "storm 900;shame bad;walks pace;");
        Due.tell(x, 1, "in 0 deed 1 bad 9;in 3 deed 1 bad 9;");
        Due.tell(x, 2, "kiosk 4;bed 8;bed 12;");
        Due.tell(x, 3, "on 0 1;on 3 0;");
        x.set(1, 0, 70);
        x.act(2, 0);
        x.days(1);
        return x;
    }

    private static void inThought(PierTooFar x, int promise) {
        switch (promise) {
            case 17 -> x.goes(60, 1);
            case 18 -> x.far(0, 0);
            case 36 -> x.meets(0, 1, 0);
            case 35 -> x.sleeps(10);
            case 22 -> x.boats(3);
            case 37 -> x.game(1);
            default -> x.serves(2, 1);
        }
    }

    private static PierTooFar toldMuch() {
        PierTooFar x = new PierTooFar();
        x.walker(3, 10, 1);
        x.set(1, 0, 70);
        x.owns(1, 1);
        x.want(0, 5);
        x.want(1, 9);
        x.talk(1, 2, 3);
        x.did(3, 30);
        x.deed(9, 9);
        x.price(9);
        x.price(3);
        x.lamp(1, 1, 1);
        x.lamp(2, 2, 3);
        x.odds(4, 50);
        return x;
    }

    private static void refusedTellings() {
        int[] promises = {20, 23, 25, 27, 29, 31, 33};
        for (int promise : promises) {
            DUE.promise(promise);
            PierTooFar x = toldMuch();
            long thought = Due.thought(x);
            long seen = Due.seen(x);
            DUE.is("look(15): what is told for thought forgets nothing", x.look(15), 1);
            refused(x, promise);
            DUE.is("what is answered behind refused calls", Due.thought(x), thought);
            DUE.is("what is seen behind refused calls", Due.seen(x), seen);
        }
    }

    private static void refused(PierTooFar x, int promise) {
        switch (promise) {
            case 20 -> {
                x.want(0, 200);
                x.want(1, -2);
                x.want(3, -1);
            }
            case 23 -> {
                x.talk(1, 10, 0);
                x.talk(1, 3, 200);
            }
            case 25 -> {
                x.did(12, 0);
                x.did(3, 201);
            }
            case 27 -> {
                x.deed(100, 0);
                x.deed(1, 10);
            }
            case 29 -> {
                x.price(100);
                x.price(-2);
            }
            case 31 -> {
                x.lamp(1, 6, 0);
                x.lamp(1, 1, 2);
                x.lamp(8, 1, 0);
            }
            default -> {
                x.odds(4, 101);
                x.odds(10, 1);
            }
        }
    }
}
