import java.util.ArrayDeque;
import java.util.ArrayList;
import java.util.Arrays;
import java.util.Deque;
import java.util.List;
import java.util.Random;

/**
 * Runs of random telling, years, days, acts by hand, UNDO and THE IMAGE against a second, plain model of the
 * pier. Its law is a tree that is worked out by itself, so the reading of THE LAW is tried, too.
 */
public final class ModelTest {
    private static final Due DUE = new Due("ModelTest");
    private static final String[] ASKED =
            {"deed", "bad", "long", "pace", "nerve", "left", "mile", "wind", "year", "strong"};

    public static void main(String[] args) {
        for (int seed = 0; seed < 2500; seed++) {
            run(new Random(seed), seed);
        }
        DUE.close();
    }

    /** A part of THE LAW: how it is written and what it is worth. */
    private interface Part {
        int of(int[] asked);
    }

    private static final class Written {
        final String text;
        final Part part;

        Written(String text, Part part) {
            this.text = text;
            this.part = part;
        }
    }

    private record Line(String word, Written e, Written b) {
    }

    private static Written unit(Random random) {
        if (random.nextInt(3) == 0) {
            int number = random.nextInt(random.nextBoolean() ? 10 : 10000);
            return new Written("" + number, asked -> number);
        }
        int which = random.nextInt(10);
        return new Written(ASKED[which], asked -> asked[which]);
    }

    private static Written product(Random random) {
        Written left = unit(random);
        for (int i = random.nextInt(3); i > 0; i--) {
            Part before = left.part;
            if (random.nextBoolean()) {
                Written right = unit(random);
                left = new Written(left.text + " * " + right.text, asked -> before.of(asked) * right.part.of(asked));
            } else {
                int number = 1 + random.nextInt(20);
                left = new Written(left.text + "/" + number, asked -> before.of(asked) / number);
            }
        }
        return left;
    }

    private static Written sum(Random random) {
        Written left = product(random);
        for (int i = random.nextInt(3); i > 0; i--) {
            Part before = left.part;
            Written right = product(random);
            boolean plus = random.nextBoolean();
            left = new Written(left.text + (plus ? "+" : "-") + right.text,
                    asked -> plus ? before.of(asked) + right.part.of(asked) : before.of(asked) - right.part.of(asked));
        }
        return left;
    }

    private static Written claim(Random random, int depth) {
        int sort = depth > 2 ? 3 : random.nextInt(6);
        if (sort == 0) {
            Written inner = claim(random, depth + 1);
            return new Written("not " + inner.text, asked -> 1 - inner.part.of(asked));
        }
        if (sort == 1) {
            Written inner = either(random, depth + 1);
            return new Written("(" + inner.text + ")", inner.part);
        }
        Written left = sum(random);
        Written right = sum(random);
        int sign = random.nextInt(3);
        return new Written(left.text + "<=>".charAt(sign) + right.text, asked -> {
            int compared = Integer.compare(left.part.of(asked), right.part.of(asked));
            return compared == sign - 1 ? 1 : 0;
        });
    }

    private static Written both(Random random, int depth) {
        Written left = claim(random, depth);
        for (int i = random.nextInt(4) / 2; i > 0; i--) {
            Part before = left.part;
            Written right = claim(random, depth);
            left = new Written(left.text + " and " + right.text, asked -> before.of(asked) * right.part.of(asked));
        }
        return left;
    }

    private static Written either(Random random, int depth) {
        Written left = both(random, depth);
        for (int i = random.nextInt(4) / 2; i > 0; i--) {
            Part before = left.part;
            Written right = both(random, depth);
            left = new Written(left.text + " or " + right.text,
                    asked -> Math.max(before.of(asked), right.part.of(asked)));
        }
        return left;
    }

    /** What is told or goes on; copied whole for UNDO and for THE IMAGE. */
    private static final class Model {
        int state;
        int length;
        boolean[] broken = new boolean[200];
        int wind;
        int year;
        int day;
        int lost;
        boolean[] strong = new boolean[10];
        List<int[]> book = new ArrayList<>();
        List<int[]> walkers = new ArrayList<>();
        List<Line> law = new ArrayList<>();
        List<int[]> deeds = new ArrayList<>();
        List<int[]> setting = new ArrayList<>();

        Model copy() {
            Model copy = new Model();
            copy.state = state;
            copy.length = length;
            copy.broken = broken.clone();
            copy.wind = wind;
            copy.year = year;
            copy.day = day;
            copy.lost = lost;
            copy.strong = strong.clone();
            copy.book.addAll(book);
            for (int[] walker : walkers) {
                copy.walkers.add(walker.clone());
            }
            copy.law = law;
            copy.deeds = deeds;
            copy.setting = setting;
            return copy;
        }

        void line(int... line) {
            if (book.size() < 150) {
                book.add(line);
            }
        }

        int tells(String word, int[] asked, int otherwise, int most) {
            int told = otherwise;
            for (Line line : law) {
                if (line.word.equals(word) && (line.b == null || line.b.part.of(asked) == 1)) {
                    told = line.e.part.of(asked);
                    break;
                }
            }
            return told < 0 ? 0 : told > most ? most : told;
        }

        int shame(int deed, int bad) {
            return tells("shame", new int[] {deed, bad, length, 0, 0, 0, 0, wind, year, 0}, bad / 9 + 1, 20);
        }

        int walks(int[] w) {
            int at = w[3] < 0 ? 0 : w[3];
            return tells("walks", new int[] {0, 0, length, w[0], w[2], w[5], at, wind, 0, 0}, w[0], 20);
        }

        int storm(int part) {
            int is = strong[part] ? 1 : 0;
            return tells("storm", new int[] {0, 0, length, 0, 0, 0, 20 * part, wind, year, is}, 10 * wind, 1000);
        }

        int draw(int m) {
            Due.Draws draws = new Due.Draws(state);
            int drawn = draws.draw(m);
            state = draws.state;
            return drawn;
        }

        int own(int deed, int bad) {
            int more = Math.min(200 - length, shame(deed, bad));
            length += more;
            line(year, 0, deed, more);
            return more;
        }

        int goYear(boolean thought) {
            for (int[] deed : deeds) {
                if (deed[0] == year) {
                    own(deed[1], deed[2]);
                }
            }
            int broke = 0;
            for (int part = 0; part < 10; part++) {
                if (20 * part >= length) {
                    continue;
                }
                int storm = storm(part);
                int mile = -1;
                if (thought) {
                    mile = storm >= 500 ? 20 * part : -1;
                } else if (storm > 0 && draw(1000) < storm) {
                    mile = 20 * part + draw(20);
                }
                if (mile >= 0 && mile < length && !broken[mile]) {
                    broken[mile] = true;
                    line(year, 1, mile, length);
                    broke++;
                }
            }
            year++;
            return broke;
        }

        boolean setOff(int w) {
            int[] walker = walkers.get(w);
            if (walker[3] >= 0 || length == 0 || broken[0]) {
                return false;
            }
            walker[3] = 0;
            walker[4] = 1;
            walker[5] = walker[1];
            line(year, 3, w, day);
            return true;
        }

        int goDay() {
            for (int[] line : setting) {
                if (line[0] == day) {
                    setOff(line[1]);
                }
            }
            int home = 0;
            for (int w = 0; w < walkers.size(); w++) {
                home += walkers.get(w)[3] >= 0 && goesHome(w, walkers.get(w)) ? 1 : 0;
            }
            day++;
            return home;
        }

        boolean goesHome(int w, int[] walker) {
            walker[5]--;
            if (walker[4] == 1 && walker[5] <= walker[1] / 2) {
                walker[4] = 0;
                line(year, 4, w, walker[3]);
            }
            int steps = walks(walker);
            while (steps > 0) {
                steps--;
                int to = walker[3] + (walker[4] == 1 ? 1 : -1);
                if (to == -1) {
                    line(year, 5, w, day);
                    walker[3] = -1;
                    walker[5] = 0;
                    return true;
                }
                if (to >= length || broken[to]) {
                    if (walker[4] == 1) {
                        walker[4] = 0;
                        line(year, 4, w, walker[3]);
                    }
                    break;
                }
                walker[3] = to;
            }
            if (walker[5] == 0) {
                line(year, 6, w, walker[3]);
                walker[3] = -1;
                walker[4] = 0;
                lost++;
            }
            return false;
        }
    }

    private static final class Both {
        final PierTooFar x = new PierTooFar();
        Model model = new Model();
        final Deque<Model> undo = new ArrayDeque<>();
        Model image = null;

        void keep() {
            undo.addLast(model.copy());
            if (undo.size() > 6) {
                undo.removeFirst();
            }
        }
    }

    private static void run(Random random, int seed) {
        Both both = new Both();
        for (int w = 1 + random.nextInt(4); w > 0; w--) {
            int pace = 1 + random.nextInt(9);
            int days = 1 + random.nextInt(12);
            int nerve = random.nextInt(10);
            both.x.walker(pace, days, nerve);
            both.model.walkers.add(new int[] {pace, days, nerve, -1, 0, 0});
        }
        int length = random.nextInt(100);
        both.x.set(1, 0, length);
        both.model.length = length;
        for (int step = 0; step < 14; step++) {
            String at = "seed " + seed + " step " + step + " ";
            one(both, random, at);
            compare(both, random, at);
        }
    }

    private static void one(Both both, Random random, String at) {
        switch (random.nextInt(12)) {
            case 0, 1 -> tell(both, random, at);
            case 2 -> tellLaw(both, random, at);
            case 3, 4 -> {
                int n = 1 + random.nextInt(3);
                int broke = 0;
                for (int i = 0; i < n; i++) {
                    both.keep();
                    broke += both.model.goYear(false);
                }
                DUE.promise(7);
                DUE.is(at + "years(" + n + ")", both.x.years(n), broke);
            }
            case 5, 6 -> {
                int n = 1 + random.nextInt(5);
                int home = 0;
                for (int i = 0; i < n; i++) {
                    both.keep();
                    home += both.model.goDay();
                }
                DUE.promise(8);
                DUE.is(at + "days(" + n + ")", both.x.days(n), home);
            }
            case 7 -> {
                int deed = random.nextInt(6);
                int bad = random.nextInt(100);
                DUE.promise(15);
                DUE.is(at + "shame", both.x.shame(deed, bad), both.model.shame(deed, bad));
                both.keep();
                DUE.promise(5);
                DUE.is(at + "owns", both.x.owns(deed, bad), both.model.own(deed, bad));
            }
            case 8, 9 -> act(both, random, at);
            case 10 -> undo(both, at);
            default -> image(both, random, at);
        }
    }

    private static void act(Both both, Random random, String at) {
        DUE.promise(6);
        int what = random.nextInt(3);
        int who = random.nextInt(what == 2 ? both.model.walkers.size() : 60);
        Model before = both.model.copy();
        boolean can;
        if (what == 2) {
            can = both.model.setOff(who);
        } else {
            can = who < both.model.length && both.model.broken[who] == (what == 1);
            if (can) {
                both.model.broken[who] = what == 0;
                both.model.line(both.model.year, what + 1, who, both.model.length);
            }
        }
        if (can) {
            both.undo.addLast(before);
            if (both.undo.size() > 6) {
                both.undo.removeFirst();
            }
        }
        DUE.is(at + "act(" + what + ", " + who + ")", both.x.act(what, who) ? 1 : 0, can ? 1 : 0);
    }

    private static void undo(Both both, String at) {
        DUE.promise(38);
        DUE.is(at + "undo()", both.x.undo() ? 1 : 0, both.undo.isEmpty() ? 0 : 1);
        if (!both.undo.isEmpty()) {
            Model back = both.undo.removeLast();
            back.law = both.model.law;
            both.model = back;
        }
    }

    private static void image(Both both, Random random, String at) {
        DUE.promise(39);
        boolean taken = random.nextBoolean();
        if (taken) {
            both.image = both.model.copy();
        } else if (both.image != null) {
            both.model = both.image.copy();
            both.undo.clear();
        }
        DUE.is(at + "image(" + taken + ")", both.x.image(taken) ? 1 : 0, both.image != null ? 1 : 0);
    }

    private static void tell(Both both, Random random, String at) {
        Model model = both.model;
        int v = random.nextInt(10);
        switch (random.nextInt(7)) {
            case 0 -> {
                both.x.state(v * 1234567);
                model.state = v * 1234567;
            }
            case 1 -> {
                both.x.set(0, 0, v);
                model.wind = v;
            }
            case 2 -> {
                int length = random.nextInt(201);
                both.x.set(1, 0, length);
                model.length = length;
                Arrays.fill(model.broken, length, 200, false);
            }
            case 3 -> {
                both.x.set(5, v, v % 2);
                model.strong[v] = v % 2 == 1;
            }
            case 4 -> {
                int w = random.nextInt(model.walkers.size());
                boolean can = model.walkers.get(w)[3] < 0;
                DUE.promise(4);
                DUE.is(at + "set(4, ..)", both.x.set(4, w, v) ? 1 : 0, can ? 1 : 0);
                if (!can) {
                    return;
                }
                model.walkers.get(w)[2] = v;
            }
            case 5 -> tellDeeds(both, random);
            default -> tellSetting(both, random);
        }
        both.undo.clear();
    }

    private static void tellDeeds(Both both, Random random) {
        both.model.deeds = new ArrayList<>();
        StringBuilder text = new StringBuilder();
        for (int i = random.nextInt(9); i > 0; i--) {
            int[] line = {both.model.year + random.nextInt(5), random.nextInt(6), random.nextInt(100)};
            both.model.deeds.add(line);
            text.append("in ").append(line[0]).append(" deed ").append(line[1]).append(" bad ").append(line[2]).append(";");
        }
        DUE.promise(11);
        DUE.is("text(1)", Due.tell(both.x, 1, text.toString()), both.model.deeds.size());
    }

    private static void tellSetting(Both both, Random random) {
        both.model.setting = new ArrayList<>();
        StringBuilder text = new StringBuilder();
        for (int i = random.nextInt(9); i > 0; i--) {
            int[] line = {both.model.day + random.nextInt(7), random.nextInt(both.model.walkers.size())};
            both.model.setting.add(line);
            text.append("on ").append(line[0]).append(" ").append(line[1]).append(";");
        }
        DUE.promise(11);
        DUE.is("text(3)", Due.tell(both.x, 3, text.toString()), both.model.setting.size());
    }

    private static void tellLaw(Both both, Random random, String at) {
        List<Line> law = new ArrayList<>();
        StringBuilder text = new StringBuilder();
        for (int i = random.nextInt(6); i > 0; i--) {
            String word = new String[] {"shame", "walks", "storm"}[random.nextInt(3)];
            Line line = new Line(word, sum(random), random.nextBoolean() ? either(random, 0) : null);
            String more = word + " " + line.e.text + (line.b == null ? "" : " when " + line.b.text) + ";";
            if (text.length() + more.length() <= 400) {
                law.add(line);
                text.append(more);
            }
        }
        both.model.law = law;
        DUE.promise(11);
        DUE.is(at + "text(0) of " + text, Due.tell(both.x, 0, text.toString()), law.size());
    }

    private static void compare(Both both, Random random, String at) {
        PierTooFar x = both.x;
        Model model = both.model;
        DUE.promise(40);
        DUE.is(at + "look(1)", x.look(1), model.length);
        DUE.is(at + "look(10)", x.look(10), model.state);
        DUE.is(at + "look(6)", x.look(6), model.lost);
        DUE.is(at + "look(9)", x.look(9), model.book.size());
        DUE.is(at + "look(15)", x.look(15), both.undo.size());
        int w = random.nextInt(model.walkers.size());
        DUE.promise(13);
        DUE.is(at + "of(" + w + ", 3)", x.of(w, 3), model.walkers.get(w)[3]);
        DUE.is(at + "of(" + w + ", 6)", x.of(w, 6), model.walks(model.walkers.get(w)));
        int m = random.nextInt(200);
        DUE.promise(14);
        DUE.is(at + "mile(" + m + ", 0)", x.mile(m, 0), model.broken[m] ? 1 : 0);
        DUE.is(at + "mile(" + m + ", 4)", x.mile(m, 4), model.storm(m / 20));
        if (!model.book.isEmpty()) {
            DUE.promise(16);
            int i = model.book.size() - 1 - random.nextInt(Math.min(5, model.book.size()));
            int what = random.nextInt(4);
            DUE.is(at + "book(" + i + ", " + what + ")", x.book(i, what), model.book.get(i)[what]);
        }
        switch (random.nextInt(3)) {
            case 0 -> compareGoes(x, model, 1 + random.nextInt(60), at);
            case 1 -> compareFar(x, model, w, at);
            default -> compareMeets(x, model, w, random.nextInt(model.walkers.size()), at);
        }
    }

    private static void compareGoes(PierTooFar x, Model model, int n, String at) {
        DUE.promise(17);
        Model thought = model.copy();
        for (int i = 0; i < n; i++) {
            thought.goYear(true);
        }
        int broken = 0;
        for (boolean is : thought.broken) {
            broken += is ? 1 : 0;
        }
        DUE.is(at + "goes(" + n + ", 0)", x.goes(n, 0), thought.length);
        DUE.is(at + "goes(" + n + ", 1)", x.goes(n, 1), broken);
    }

    private static void compareFar(PierTooFar x, Model model, int w, String at) {
        DUE.promise(18);
        Model thought = model.copy();
        int[] walker = thought.walkers.get(w);
        walker[3] = -1;
        walker[4] = 0;
        walker[5] = 0;
        int furthest = -1;
        boolean home = false;
        if (thought.setOff(w)) {
            furthest = 0;
            while (walker[3] >= 0) {
                home = thought.goesHome(w, walker);
                furthest = Math.max(furthest, walker[3]);
            }
        }
        DUE.is(at + "far(" + w + ", 0)", x.far(w, 0), furthest);
        DUE.is(at + "far(" + w + ", 1)", x.far(w, 1), home ? 1 : 0);
    }

    private static void compareMeets(PierTooFar x, Model model, int a, int b, String at) {
        DUE.promise(36);
        Model thought = model.copy();
        int day = -1;
        int mile = -1;
        for (int i = 0; i <= 30 && day < 0 && a != b; i++) {
            thought.goDay();
            if (thought.walkers.get(a)[3] >= 0 && thought.walkers.get(a)[3] == thought.walkers.get(b)[3]) {
                day = i;
                mile = thought.walkers.get(a)[3];
            }
        }
        DUE.is(at + "meets(" + a + ", " + b + ", 0)", x.meets(a, b, 0), day);
        DUE.is(at + "meets(" + a + ", " + b + ", 1)", x.meets(a, b, 1), mile);
    }
}
