/** Promises 9 to 12, and 15: the TAPE, the texts, their faults, and what THE LAW tells. */
public final class TextTest {
    private static final Due DUE = new Due("TextTest");

    public static void main(String[] args) {
        feed();
        highestFirst();
        end();
        noSuchText();
        emptyTape();
        noSuchTextLeavesTexts();
        faultsKeepTheText();
        lawFaults();
        lawFaultsOfConditions();
        openOnes();
        deedsFaults();
        placesFaults();
        settingFaults();
        seventeenLines();
        tokens();
        edgesOfTokens();
        numbersOfTheLaw();
        conditionsOfTheLaw();
        firstLine();
        held();
        shameAsks();
        walksAsks();
        stormAsks();
        forgetsOrNot();
        DUE.close();
    }

    private static void feed() {
        DUE.promise(9);
        PierTooFar x = new PierTooFar();
        for (int i = 1; i <= 20; i++) {
            DUE.is("feed(..)", x.feed(0x20202020, 0x20202020, 0x20202020, 0x20202020, 0x20202020), 20 * i);
        }
        DUE.is("feed(..) beyond 400", x.feed(0, 0, 0, 0, 0), -1);
        DUE.yes("end(400)", x.end(400));
        DUE.no("end(401)", x.end(401));
        DUE.yes("end(381)", x.end(381));
        DUE.is("feed(..) beyond 400", x.feed(0, 0, 0, 0, 0), -1);
        DUE.is("text(0): nothing came", x.text(0), 0);
        DUE.is("feed(..)", x.feed(0, 0, 0, 0, 0), 20);
        DUE.is("text(0)", x.text(0), -1);
        DUE.is("feed(..) behind a FAULT", x.feed(0, 0, 0, 0, 0), 20);
        x.owns(1, 1);
        x.feed(1, 2, 3, 4, 5);
        x.end(3);
        DUE.is("look(15): the TAPE forgets nothing", x.look(15), 1);
    }

    private static void highestFirst() {
        DUE.promise(9);
        PierTooFar x = new PierTooFar();
        x.walker(1, 1, 1);
        x.feed(0x77616c6b, 0x73203138, 0x2d352d34, 0x2d332d32, 0x2d312d31);
        x.feed(0x3b202020, 0x20202020, 0x20202020, 0x20202020, 0x20202020);
        DUE.is("text(0)", x.text(0), 1);
        DUE.is("of(0, 6)", x.of(0, 6), 2);
        x.feed(0x3b000000, 0, 0, 0, 0xff);
        DUE.yes("end(1)", x.end(1));
        DUE.is("text(0)", x.text(0), -1);
        DUE.is("fault(1)", x.fault(1), 0);
        x.feed(0x20202020, 0x20202020, 0x20202020, 0x20202020, 0x202020ff);
        DUE.is("text(0)", x.text(0), -1);
        DUE.is("fault(1)", x.fault(1), 19);
    }

    private static void end() {
        DUE.promise(10);
        PierTooFar x = new PierTooFar();
        DUE.yes("end(0)", x.end(0));
        DUE.no("end(1)", x.end(1));
        DUE.no("end(-1)", x.end(-1));
        x.feed(0x2020203b, 0x20202020, 0x20202020, 0x20202020, 0x20202020);
        DUE.no("end(21)", x.end(21));
        DUE.no("end(-2147483648)", x.end(Integer.MIN_VALUE));
        DUE.yes("end(20)", x.end(20));
        DUE.yes("end(3)", x.end(3));
        DUE.no("end(4)", x.end(4));
        DUE.is("feed(..)", x.feed(0x3b202020, 0x20202020, 0x20202020, 0x20202020, 0x20202020), 23);
        DUE.is("text(0)", x.text(0), -1);
        DUE.is("fault(1): behind the first three alone", x.fault(1), 3);
        DUE.no("end(1) behind text()", x.end(1));
        Due.feed(x, "storms 1;");
        x.end(5);
        x.text(0);
        DUE.is("fault(1): what is cut off does not stand together with it", x.fault(1), 5);
    }

    private static void noSuchText() {
        DUE.promise(11);
        PierTooFar x = new PierTooFar();
        fault(x, 0, "storm", 1, 5);
        DUE.is("text(4)", x.text(4), -1);
        DUE.is("fault(0)", x.fault(0), 0);
        DUE.is("fault(1)", x.fault(1), -1);
        fault(x, 0, "storm", 1, 5);
        DUE.is("text(-1)", x.text(-1), -1);
        DUE.is("fault(0)", x.fault(0), 0);
        DUE.promise(12);
        fault(x, 0, "storm", 1, 5);
        DUE.is("fault(2)", x.fault(2), -1);
        DUE.is("fault(-1)", x.fault(-1), -1);
        DUE.is("text(0)", x.text(0), 0);
        DUE.is("fault(0)", x.fault(0), 0);
        DUE.is("fault(1)", x.fault(1), -1);
    }

    /** The TAPE is empty behind every text(): one that is taken, one with a FAULT, and one that there is not. */
    private static void emptyTape() {
        int[] numbers = {Integer.MIN_VALUE, -2, -1, 0, 1, 2, 3, 4, 5, 256, Integer.MAX_VALUE};
        String[] tapes = {"", " ", "storm 7;", "in 1 deed 1 bad 1;", "bed 3;", "on 1 0;", "?", "123456789012345678901234567890"};
        for (int k : numbers) {
            for (String tape : tapes) {
                PierTooFar x = new PierTooFar();
                x.walker(1, 1, 1);
                String at = " behind text(" + k + ") of " + tape;
                DUE.promise(11);
                Due.tell(x, k, tape);
                DUE.promise(10);
                DUE.no("end(1)" + at, x.end(1));
                DUE.yes("end(0)" + at, x.end(0));
                Due.tell(x, k, tape);
                DUE.promise(9);
                DUE.is("feed(..)" + at, x.feed(0, 0, 0, 0, 0), 20);
                Due.tell(x, k, tape);
                DUE.promise(11);
                DUE.is("text(0)" + at, x.text(0), 0);
                DUE.is("fault(0)" + at, x.fault(0), 0);
            }
        }
        full();
    }

    private static void full() {
        DUE.promise(9);
        PierTooFar x = new PierTooFar();
        for (int i = 1; i <= 20; i++) {
            x.feed(0, 0, 0, 0, 0);
        }
        DUE.is("feed(..) of a full TAPE", x.feed(0, 0, 0, 0, 0), -1);
        DUE.is("text(7)", x.text(7), -1);
        DUE.is("feed(..) behind text(7)", x.feed(0, 0, 0, 0, 0), 20);
    }

    /** What stays as it was behind a text that there is not: the texts, and what can be undone. */
    private static void noSuchTextLeavesTexts() {
        DUE.promise(11);
        PierTooFar x = new PierTooFar();
        x.walker(1, 1, 1);
        Due.tell(x, 0, "storm 7;");
        Due.tell(x, 1, "in 1 deed 1 bad 1;in 2 deed 1 bad 1;");
        Due.tell(x, 2, "bed 1;bed 2;bed 3;");
        Due.tell(x, 3, "on 1 0;on 2 0;on 3 0;on 4 0;");
        x.owns(0, 0);
        DUE.is("text(4)", Due.tell(x, 4, "shame 1;"), -1);
        DUE.is("text(-1)", Due.tell(x, -1, "bed 4;"), -1);
        for (int k = 0; k <= 3; k++) {
            DUE.is("look(" + (11 + k) + ")", x.look(11 + k), k + 1);
        }
        DUE.is("look(15)", x.look(15), 1);
        DUE.is("shame(0, 0)", x.shame(0, 0), 1);
        DUE.is("mile(4, 2)", x.mile(4, 2), 0);
    }

    private static void fault(PierTooFar x, int k, String text, int which, int place) {
        DUE.is("text(" + k + ") of \"" + text + "\"", Due.tell(x, k, text), -1);
        DUE.is("fault(0) of \"" + text + "\"", x.fault(0), which);
        DUE.is("fault(1) of \"" + text + "\"", x.fault(1), place);
    }

    private static void fine(PierTooFar x, int k, String text, int lines) {
        DUE.is("text(" + k + ") of \"" + text + "\"", Due.tell(x, k, text), lines);
        DUE.is("fault(0) of \"" + text + "\"", x.fault(0), 0);
        DUE.is("fault(1) of \"" + text + "\"", x.fault(1), -1);
    }

    private static void faultsKeepTheText() {
        DUE.promise(11);
        PierTooFar x = new PierTooFar();
        x.walker(4, 5, 6);
        x.set(1, 0, 30);
        fine(x, 0, "walks 7;storm 9;shame 2;", 3);
        fine(x, 1, "in 0 deed 1 bad 1;", 1);
        fine(x, 2, "kiosk 5;bed 6;", 2);
        fine(x, 3, "on 0 0;", 1);
        fault(x, 0, "walks 3;storm 4;shame 5", 1, 23);
        fault(x, 1, "in 0 deed 1 bad 1;in 0 deed 1 bad 1;in", 1, 38);
        fault(x, 2, "kiosk 8;lamp", 1, 12);
        fault(x, 3, "on 1 0;on 2 0;on", 1, 16);
        DUE.is("look(11)", x.look(11), 3);
        DUE.is("look(12)", x.look(12), 1);
        DUE.is("look(13)", x.look(13), 2);
        DUE.is("look(14)", x.look(14), 1);
        DUE.is("of(0, 6)", x.of(0, 6), 7);
        DUE.is("mile(0, 4)", x.mile(0, 4), 9);
        DUE.is("shame(0, 0)", x.shame(0, 0), 2);
        DUE.is("mile(5, 1)", x.mile(5, 1), 1);
        DUE.is("mile(8, 1)", x.mile(8, 1), 0);
        x.days(1);
        DUE.is("look(7)", x.look(7), 1);
        x.years(1);
        DUE.is("look(1)", x.look(1), 32);
        fine(x, 0, "", 0);
        fine(x, 1, "  \n ", 0);
        fine(x, 2, "bed 5;", 1);
        DUE.is("mile(5, 1)", x.mile(5, 1), 0);
        DUE.is("mile(5, 2)", x.mile(5, 2), 1);
        DUE.is("mile(5, 3)", x.mile(5, 3), 0);
        DUE.is("mile(6, 2)", x.mile(6, 2), 0);
        DUE.is("of(0, 6): as without THE LAW", x.of(0, 6), 4);
        DUE.is("look(12)", x.look(12), 0);
    }

    private static void lawFaults() {
        DUE.promise(12);
        PierTooFar x = new PierTooFar();
        fault(x, 0, "shame", 1, 5);
        fault(x, 0, "shame  ", 1, 7);
        fault(x, 0, "shame 1", 1, 7);
        fault(x, 0, ";", 1, 0);
        fault(x, 0, "shame ;", 1, 6);
        fault(x, 0, "deed 1;", 1, 0);
        fault(x, 0, "Shame 1;", 1, 0);
        fault(x, 0, "shames 1;", 1, 0);
        fault(x, 0, "sham 1;", 1, 0);
        fault(x, 0, "in 1 deed 1 bad 1;", 1, 0);
        fault(x, 0, "shame shame;", 1, 6);
        fault(x, 0, "shame -1;", 1, 6);
        fault(x, 0, "shame (1);", 1, 6);
        fault(x, 0, "shame 1 2;", 1, 8);
        fault(x, 0, "shame 1+;", 1, 8);
        fault(x, 0, "shame 1*+1;", 1, 8);
        fault(x, 0, "shame 1-when 1=1;", 1, 8);
        fault(x, 0, "shame 1/bad;", 1, 8);
        fault(x, 0, "shame 1/;", 1, 8);
        fault(x, 0, "shame 1/0;", 2, 8);
        fault(x, 0, "shame 1/0000", 2, 8);
        fault(x, 0, "shame 1/00000;", 1, 8);
        fault(x, 0, "shame bad/0 $", 2, 10);
        fault(x, 0, "shame 12345;", 1, 6);
        fault(x, 0, "shame 1;;", 1, 8);
        fault(x, 0, "shame 1<2;", 1, 7);
        fault(x, 0, "shame 1 or 1;", 1, 8);
        fault(x, 0, "shame 1;$", 1, 8);
        fault(x, 0, "shame kiosk;", 1, 6);
        fault(x, 0, "shame 1.;", 1, 7);
        fault(x, 0, "shame\t1;", 1, 5);
        fine(x, 0, "shame 1/1*bad-deed+9999*0/7;", 1);
        fine(x, 0, "shame\n0001 ;\n", 1);
    }

    private static void lawFaultsOfConditions() {
        DUE.promise(12);
        PierTooFar x = new PierTooFar();
        fault(x, 0, "storm 1 when;", 1, 12);
        fault(x, 0, "storm 1 when", 1, 12);
        fault(x, 0, "storm 1 when wind;", 1, 17);
        fault(x, 0, "storm 1 when wind<;", 1, 18);
        fault(x, 0, "storm 1 when wind<1<2;", 1, 19);
        fault(x, 0, "storm 1 when wind<1 and;", 1, 23);
        fault(x, 0, "storm 1 when wind<1 and or 1=1;", 1, 24);
        fault(x, 0, "storm 1 when wind<1 not 1=1;", 1, 20);
        fault(x, 0, "storm 1 when (wind<1;", 1, 20);
        fault(x, 0, "storm 1 when wind<1);", 1, 19);
        fault(x, 0, "storm 1 when ();", 1, 14);
        fault(x, 0, "storm 1 when (wind)<1;", 1, 18);
        fault(x, 0, "storm 1 when not;", 1, 16);
        fault(x, 0, "storm 1 when 1=1 when 1=1;", 1, 17);
        fault(x, 0, "storm 1 when 1=2/0;", 2, 17);
        fault(x, 0, "storm 1 when 1==2;", 1, 15);
        fault(x, 0, "when 1=1;", 1, 0);
        fine(x, 0, "storm 1 when not(wind<1 or not wind>2)and(1=1);", 1);
    }

    private static void openOnes() {
        DUE.promise(12);
        PierTooFar x = new PierTooFar();
        fine(x, 0, "storm 1 when ((((((((1=1))))))));", 1);
        fault(x, 0, "storm 1 when (((((((((1=1)))))))));", 3, 21);
        fine(x, 0, "storm 1 when not not not not not not not not 1=1;", 1);
        fault(x, 0, "storm 1 when not not not not not not not not(1=1);", 3, 44);
        fault(x, 0, "storm 1 when not(not(not(not(not 1=1))));", 3, 29);
        fine(x, 0, "storm 1 when not(not(not(not(1=1))));", 1);
        fine(x, 0, "storm 1 when (((((((not 1=1 and not 1=2 or not 1=3)))))));", 1);
        fine(x, 0, "storm 1 when ((((((((1=1))))))))and((((((((1=1))))))));", 1);
        fault(x, 0, "storm 1 when (((((((not 1=1 and (not 1=1))))))));", 3, 33);
        fault(x, 0, "storm 1 when (((((((((", 3, 21);
    }

    private static void deedsFaults() {
        DUE.promise(12);
        PierTooFar x = new PierTooFar();
        fine(x, 1, "in 0 deed 0 bad 0;in 999 deed 5 bad 99;", 2);
        fault(x, 1, "in 1000 deed 0 bad 0;", 2, 3);
        fault(x, 1, "in 10000 deed 0 bad 0;", 1, 3);
        fault(x, 1, "in 0 deed 6 bad 0;", 2, 10);
        fault(x, 1, "in 0 deed 0 bad 100;", 2, 16);
        fault(x, 1, "in 0 deed 0 bad 0", 1, 17);
        fault(x, 1, "in 0 bad 0 deed 0;", 1, 5);
        fault(x, 1, "in 0 deed 0 deed 0;", 1, 12);
        fault(x, 1, "in deed 0 bad 0;", 1, 3);
        fault(x, 1, "in 0 deed bad 0;", 1, 10);
        fault(x, 1, "in 0 deed 0 bad;", 1, 15);
        fault(x, 1, "in 0 deed 0 bad 0 0;", 1, 18);
        fault(x, 1, "kiosk 1;", 1, 0);
        fault(x, 1, "shame 1;", 1, 0);
        fine(x, 1, "in 1 deed 1 bad 1;in 1 deed 1 bad 1;", 2);
    }

    private static void placesFaults() {
        DUE.promise(12);
        PierTooFar x = new PierTooFar();
        fine(x, 2, "kiosk 0;bed 199;lamp 0;bed 0;kiosk 199;", 5);
        fault(x, 2, "kiosk 200;", 2, 6);
        fault(x, 2, "kiosk 1;bed 1;bed 2;bed 1;", 2, 24);
        fault(x, 2, "lamp 7;lamp 007", 2, 12);
        fault(x, 2, "kiosk;", 1, 5);
        fault(x, 2, "kiosk 1 bed 2;", 1, 8);
        fault(x, 2, "on 1 1;", 1, 0);
        fault(x, 2, "kiosk bed;", 1, 6);
        fault(x, 2, "kiosk 1;kiosk 1", 2, 14);
        DUE.is("look(13)", x.look(13), 5);
    }

    private static void settingFaults() {
        DUE.promise(12);
        PierTooFar x = new PierTooFar();
        fault(x, 3, "on 0 0;", 2, 5);
        x.walker(1, 1, 1);
        fine(x, 3, "on 0 0;on 999 0;on 0 0;", 3);
        fault(x, 3, "on 1000 0;", 2, 3);
        fault(x, 3, "on 0 1;", 2, 5);
        fault(x, 3, "on 0;", 1, 4);
        fault(x, 3, "on 0 0", 1, 6);
        fault(x, 3, "on 0 0 0;", 1, 7);
        fault(x, 3, "on;", 1, 2);
        fault(x, 3, "in 0 0;", 1, 0);
        for (int w = 1; w < 12; w++) {
            x.walker(1, 1, 1);
        }
        fine(x, 3, "on 0 11;", 1);
        fault(x, 3, "on 0 12;", 2, 5);
    }

    private static String times(String line, int n) {
        StringBuilder text = new StringBuilder();
        for (int i = 0; i < n; i++) {
            text.append(line);
        }
        return text.toString();
    }

    private static void seventeenLines() {
        DUE.promise(12);
        PierTooFar x = new PierTooFar();
        x.walker(1, 1, 1);
        fine(x, 0, times("shame 1;", 16), 16);
        fault(x, 0, times("shame 1;", 17), 3, 128);
        fault(x, 0, times("shame 1;", 16) + " storm", 3, 129);
        fault(x, 0, times("shame 1;", 16) + "bed 1;", 1, 128);
        fault(x, 0, times("shame 1;", 16) + ";", 1, 128);
        fine(x, 1, times("in 1 deed 1 bad 1;", 16), 16);
        fault(x, 1, times("in 1 deed 1 bad 1;", 17), 3, 288);
        fine(x, 3, times("on 1 0;", 16), 16);
        fault(x, 3, times("on 1 0;", 17), 3, 112);
        StringBuilder places = new StringBuilder();
        for (int m = 10; m < 26; m++) {
            places.append("lamp ").append(m).append(';');
        }
        fine(x, 2, places.toString(), 16);
        fault(x, 2, places + "bed 1;", 3, 128);
        fault(x, 2, places + "lamp 10;", 3, 128);
        DUE.is("mile(25, 3)", x.mile(25, 3), 1);
        DUE.is("mile(26, 3)", x.mile(26, 3), 0);
    }

    private static void edgesOfTokens() {
        DUE.promise(12);
        PierTooFar x = new PierTooFar();
        for (String digits : new String[] {"0", "9", "09", "9999"}) {
            fine(x, 0, "walks " + digits + ";", 1);
        }
        fault(x, 0, "walks /;", 1, 6);
        fault(x, 0, "walks :;", 1, 6);
    }

    private static void tokens() {
        DUE.promise(11);
        PierTooFar x = new PierTooFar();
        x.walker(3, 9, 4);
        fine(x, 0, "walks2when pace=3and nerve=4or 5>6;walks 1;", 2);
        DUE.is("of(0, 6)", x.of(0, 6), 2);
        fine(x, 2, "kiosk\n\n5;bed6 ; \nlamp  0007;", 3);
        DUE.is("mile(7, 3)", x.mile(7, 3), 1);
        fault(x, 0, "walks 2 whenpace=3;", 1, 8);
        fault(x, 0, "walks 2 when pace=3 andnerve=4;", 1, 20);
        fault(x, 0, "walks 2Pace;", 1, 7);
        for (char letter : new char[] {'a', 'm', 'z', 'A', 'M', 'Z'}) {
            fault(x, 0, "walks" + letter + " 2;", 1, 0);
        }
        for (char other : new char[] {'@', '[', '`', '{', '_', ':', '.', ',', '!', '\r', 0, 255}) {
            fault(x, 0, "walks" + other + " 2;", 1, 5);
        }
        StringBuilder full = new StringBuilder(times("storm 1;", 16));
        while (full.length() < 398) {
            full.append(' ');
        }
        fine(x, 0, full + " ", 16);
        fault(x, 0, full + " ?", 1, 399);
        fine(x, 0, "walks " + times("0+", 196) + "7;", 1);
        DUE.is("of(0, 6)", x.of(0, 6), 7);
    }

    private static void law(PierTooFar x, String expression, int due) {
        DUE.is("text(0) of \"" + expression + "\"", Due.tell(x, 0, "storm " + expression + ";"), 1);
        DUE.is("storm of \"" + expression + "\"", x.mile(0, 4), due);
    }

    private static void numbersOfTheLaw() {
        DUE.promise(14);
        PierTooFar x = new PierTooFar();
        law(x, "2+3*4", 14);
        law(x, "2*3+4", 10);
        law(x, "20-3-4", 13);
        law(x, "20-3+4", 21);
        law(x, "20-3*4+1", 9);
        law(x, "2*3+4*5-6/2", 23);
        law(x, "100/7/2", 7);
        law(x, "7/2*2", 6);
        law(x, "7*3/2", 10);
        law(x, "20+0-7/2*2", 14);
        law(x, "9-0*0", 9);
        law(x, "mile-7/2+10", 7);
        Due.tell(x, 0, "storm 0-7+0*1;");
        DUE.is("0 at least", x.mile(0, 4), 0);
        law(x, "5000*5000*5000", clamp(5000 * 5000 * 5000));
        law(x, "4096*4096*256+7", 7);
        law(x, "9999*9999*9999*9999/9999", clamp(9999 * 9999 * 9999 * 9999 / 9999));
        law(x, "9999*9999*99-9999*9999*98", clamp(9999 * 9999 * 99 - 9999 * 9999 * 98));
        x.set(1, 0, 7);
        law(x, "100-long*long/2", 76);
    }

    private static int clamp(int v) {
        return Math.max(0, Math.min(1000, v));
    }

    private static void when(PierTooFar x, String condition, boolean due) {
        DUE.is("text(0) of \"" + condition + "\"", Due.tell(x, 0, "storm 5 when " + condition + ";storm 6;"), 2);
        DUE.is("storm when \"" + condition + "\"", x.mile(0, 4), due ? 5 : 6);
    }

    private static void conditionsOfTheLaw() {
        DUE.promise(14);
        PierTooFar x = new PierTooFar();
        when(x, "1<2", true);
        when(x, "2<2", false);
        when(x, "3<2", false);
        when(x, "1=2", false);
        when(x, "2=2", true);
        when(x, "3>2", true);
        when(x, "2>2", false);
        when(x, "1>2", false);
        when(x, "0-1<0", true);
        when(x, "0-7/2=0-3", true);
        when(x, "9999*9999*30<0", true);
        when(x, "9999*9999*30/9+9999*9999+9999*4397+6314=0", true);
        when(x, "mile-7=0-7", true);
        when(x, "not 1=1", false);
        when(x, "not 1=2", true);
        when(x, "not not 1=2", false);
        when(x, "not not not 1=2", true);
        when(x, "1=1 and 1=2", false);
        when(x, "1=2 and 1=1", false);
        when(x, "1=1 and 2=2 and 3=3", true);
        when(x, "1=1 or 1=2", true);
        when(x, "1=2 or 1=1", true);
        when(x, "1=2 or 1=3", false);
        when(x, "1=1 or 1=1 and 1=2", true);
        when(x, "(1=1 or 1=1) and 1=2", false);
        when(x, "1=2 and 1=1 or 1=1", true);
        when(x, "1=2 and (1=1 or 1=1)", false);
        when(x, "not 1=1 or 1=1", true);
        when(x, "not (1=1 or 1=1)", false);
        when(x, "not 1=2 and 1=2", false);
        when(x, "not (1=2 and 1=2)", true);
        when(x, "1=2 or 1=2 or 1=1 and 2=2", true);
        when(x, "1=2 or 1=1 and 2=3 or 4=4", true);
        when(x, "1=1 and 2=2 or 1=2 and 2=3", true);
    }

    private static void firstLine() {
        DUE.promise(15);
        PierTooFar x = new PierTooFar();
        Due.tell(x, 0, "storm 1;shame 2 when deed=1;shame 3 when deed>0;shame 4;shame 5;");
        DUE.is("shame(1, 0)", x.shame(1, 0), 2);
        DUE.is("shame(2, 0)", x.shame(2, 0), 3);
        DUE.is("shame(0, 0)", x.shame(0, 0), 4);
        Due.tell(x, 0, "shame 2 when deed=1;storm 0;");
        DUE.is("shame(0, 50)", x.shame(0, 50), 6);
        Due.tell(x, 0, "");
        DUE.is("shame(0, 98)", x.shame(0, 98), 11);
        DUE.is("shame(0, 99)", x.shame(0, 99), 12);
        DUE.is("shame(0, 100)", x.shame(0, 100), -1);
        DUE.is("shame(0, -1)", x.shame(0, -1), -1);
        DUE.is("shame(-1, 0)", x.shame(-1, 0), -1);
        DUE.is("shame(6, 0)", x.shame(6, 0), -1);
        DUE.is("shame(5, 0)", x.shame(5, 0), 1);
        DUE.is("look(1): nothing is built", x.look(1), 0);
        DUE.is("look(15)", x.look(15), 0);
        x.set(0, 0, 6);
        DUE.promise(14);
        DUE.is("mile(0, 4): 10 times WIND", x.mile(0, 4), 60);
        DUE.promise(13);
        x.walker(7, 1, 1);
        DUE.is("of(0, 6): PACE", x.of(0, 6), 7);
    }

    private static void held() {
        PierTooFar x = new PierTooFar();
        x.walker(1, 1, 1);
        Due.tell(x, 0, "shame 20;walks 20;storm 1000;");
        heldIs(x, 20, 20, 1000);
        Due.tell(x, 0, "shame 21;walks 21;storm 1001;");
        heldIs(x, 20, 20, 1000);
        Due.tell(x, 0, "shame 0-1;walks 0-1;storm 0-1;");
        heldIs(x, 0, 0, 0);
        Due.tell(x, 0, "shame 19;walks 19;storm 999;");
        heldIs(x, 19, 19, 999);
    }

    private static void heldIs(PierTooFar x, int shame, int walks, int storm) {
        DUE.promise(15);
        DUE.is("shame(0, 0)", x.shame(0, 0), shame);
        DUE.promise(13);
        DUE.is("of(0, 6)", x.of(0, 6), walks);
        DUE.promise(14);
        DUE.is("mile(0, 4)", x.mile(0, 4), storm);
    }

    private static PierTooFar ready() {
        PierTooFar x = new PierTooFar();
        x.walker(2, 9, 6);
        x.walker(3, 9, 7);
        x.years(4);
        x.set(0, 0, 8);
        x.set(1, 0, 5);
        x.set(5, 2, 1);
        x.act(2, 1);
        x.days(1);
        return x;
    }

    private static final String[] WORDS = {"deed", "bad", "long", "pace", "nerve", "left", "mile", "wind", "year", "strong"};

    private static void shameAsks() {
        DUE.promise(15);
        PierTooFar x = ready();
        int[] due = {3, 13, 5, 0, 0, 0, 0, 8, 4, 0};
        for (int i = 0; i < WORDS.length; i++) {
            Due.tell(x, 0, "shame " + WORDS[i] + ";");
            DUE.is("shame(3, 13) by " + WORDS[i], x.shame(3, 13), due[i]);
        }
    }

    private static void walksAsks() {
        DUE.promise(13);
        PierTooFar x = ready();
        int[] ashore = {0, 0, 5, 2, 6, 0, 0, 8, 0, 0};
        int[] out = {0, 0, 5, 3, 7, 8, 3, 8, 0, 0};
        for (int i = 0; i < WORDS.length; i++) {
            Due.tell(x, 0, "walks " + WORDS[i] + ";");
            DUE.is("of(0, 6) by " + WORDS[i], x.of(0, 6), ashore[i]);
            DUE.is("of(1, 6) by " + WORDS[i], x.of(1, 6), out[i]);
        }
    }

    private static void stormAsks() {
        DUE.promise(14);
        PierTooFar x = ready();
        int[] strong = {0, 0, 5, 0, 0, 0, 40, 8, 4, 1};
        int[] other = {0, 0, 5, 0, 0, 0, 180, 8, 4, 0};
        for (int i = 0; i < WORDS.length; i++) {
            Due.tell(x, 0, "storm " + WORDS[i] + ";");
            DUE.is("mile(59, 4) by " + WORDS[i], x.mile(59, 4), strong[i]);
            DUE.is("mile(40, 4) by " + WORDS[i], x.mile(40, 4), strong[i]);
            DUE.is("mile(199, 4) by " + WORDS[i], x.mile(199, 4), other[i]);
        }
        DUE.is("mile(200, 4)", x.mile(200, 4), -1);
        DUE.is("mile(-1, 4)", x.mile(-1, 4), -1);
        DUE.is("mile(0, 5)", x.mile(0, 5), -1);
        DUE.is("mile(0, -1)", x.mile(0, -1), -1);
    }

    private static void forgetsOrNot() {
        DUE.promise(11);
        PierTooFar x = new PierTooFar();
        x.owns(0, 0);
        Due.tell(x, 0, "shame 1;");
        Due.tell(x, 2, "bed 1;");
        Due.tell(x, 1, "in");
        Due.tell(x, 3, "on");
        x.text(9);
        DUE.is("look(15)", x.look(15), 1);
        Due.tell(x, 1, "");
        DUE.is("look(15) behind DEEDS", x.look(15), 0);
        x.owns(0, 0);
        Due.tell(x, 3, "");
        DUE.is("look(15) behind SETTING", x.look(15), 0);
    }
}
