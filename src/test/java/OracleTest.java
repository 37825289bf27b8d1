import java.math.BigInteger;
import java.util.ArrayDeque;
import java.util.Arrays;
import java.util.Random;

/** Answers of thought against plain searches through all there is, on told numbers made from fixed seeds. */
public final class OracleTest {
    private static final Due DUE = new Due("OracleTest");

    public static void main(String[] args) {
        for (int seed = 0; seed < 60; seed++) {
            serves(new Random(seed));
            boats(new Random(seed));
            said(new Random(seed));
            fits(new Random(seed));
            ownsUp(new Random(seed));
            prices(new Random(seed));
            reads(new Random(seed));
            strength(new Random(seed));
            sleeps(new Random(seed));
            game(new Random(seed));
        }
        fitsAtTheEnd();
        DUE.close();
    }

    private static void serves(Random random) {
        DUE.promise(21);
        PierTooFar x = new PierTooFar();
        int length = random.nextInt(201);
        x.set(1, 0, length);
        int[] kiosks = random.ints(0, 200).distinct().limit(random.nextInt(4)).toArray();
        StringBuilder places = new StringBuilder();
        for (int kiosk : kiosks) {
            places.append("kiosk ").append(kiosk).append(';');
        }
        Due.tell(x, 2, places.toString());
        int[] wants = random.ints(random.nextInt(21), 0, 200).toArray();
        int[] sites = random.ints(random.nextInt(11), 0, 200).toArray();
        for (int want : wants) {
            x.want(0, want);
        }
        for (int site : sites) {
            x.want(1, site);
        }
        for (int k = 1; k <= 6; k++) {
            int most = -1;
            int best = -1;
            for (int size = 0; size <= k; size++) {
                for (int set = 0; set < 1 << sites.length; set++) {
                    if (Integer.bitCount(set) != size) {
                        continue;
                    }
                    int count = 0;
                    for (int want : wants) {
                        count += isServed(want, set, sites, kiosks, length) ? 1 : 0;
                    }
                    if (count > most) {
                        most = count;
                        best = set;
                    }
                }
            }
            DUE.is("serves(" + k + ", 0)", x.serves(k, 0), most);
            DUE.is("serves(" + k + ", 1)", x.serves(k, 1), best);
        }
    }

    private static boolean isServed(int want, int set, int[] sites, int[] kiosks, int length) {
        for (int kiosk : kiosks) {
            if (kiosk < length && kiosk - want <= 10 && want - kiosk <= 10) {
                return true;
            }
        }
        for (int i = 0; i < sites.length; i++) {
            if ((set >> i) % 2 == 1 && sites[i] - want <= 10 && want - sites[i] <= 10) {
                return true;
            }
        }
        return false;
    }

    private static void boats(Random random) {
        DUE.promise(22);
        PierTooFar x = new PierTooFar();
        x.set(1, 0, 200);
        int walkers = 1 + random.nextInt(12);
        for (int w = 0; w < walkers; w++) {
            x.walker(1 + random.nextInt(9), 30, 0);
            x.act(2, w);
        }
        x.days(1);
        int gap = random.nextInt(9);
        x.act(0, gap);
        x.act(0, gap + 20);
        int beyond = 0;
        for (int w = 0; w < walkers; w++) {
            beyond += x.of(w, 0) > gap ? 1 : 0;
        }
        for (int c = 1; c <= 9; c++) {
            DUE.is("boats(" + c + ") for " + beyond, x.boats(c), crossings(beyond, c));
        }
    }

    /** By breadth: how many are beyond and on which side the boat is. */
    private static int crossings(int beyond, int c) {
        int[] far = new int[beyond + 1];
        int[] near = new int[beyond + 1];
        Arrays.fill(far, -1);
        Arrays.fill(near, -1);
        far[beyond] = 0;
        if (beyond == 0) {
            return 0;
        }
        ArrayDeque<int[]> open = new ArrayDeque<>();
        open.add(new int[] {beyond, 0});
        while (!open.isEmpty()) {
            int[] at = open.remove();
            boolean isFar = at[1] == 0;
            int steps = isFar ? far[at[0]] : near[at[0]];
            if (!isFar && at[0] == 0) {
                return steps;
            }
            for (int n = 1; n <= (isFar ? Math.min(c, at[0]) : 1); n++) {
                int then = isFar ? at[0] - n : at[0] + n;
                int[] side = isFar ? near : far;
                if (then <= beyond && side[then] < 0) {
                    side[then] = steps + 1;
                    open.add(new int[] {then, 1 - at[1]});
                }
            }
        }
        return -1;
    }

    private static void said(Random random) {
        DUE.promise(24);
        PierTooFar x = new PierTooFar();
        int n = random.nextInt(17);
        int[][] couples = new int[n][];
        for (int i = 0; i < n; i++) {
            couples[i] = new int[] {random.nextInt(10), random.nextInt(10), random.nextInt(200)};
            x.talk(couples[i][0], couples[i][1], couples[i][2]);
        }
        for (int round = 0; round < 10; round++) {
            int m = random.nextInt(200);
            int o = random.nextInt(200);
            int apart = 0;
            for (int word = 0; word < 10; word++) {
                int as = as(couples, word, m);
                DUE.is("said(" + word + ", " + m + ", 0)", x.said(word, m, 0), as);
                apart += as == as(couples, word, o) ? 0 : 1;
            }
            DUE.is("said(-1, " + m + ", " + o + ")", x.said(-1, m, o), apart);
        }
    }

    private static int as(int[][] couples, int word, int mile) {
        int as = word;
        for (int[] couple : couples) {
            as = couple[2] <= mile && couple[0] == as ? couple[1] : as;
        }
        return as;
    }

    /** Told lengths of one row of deeds; now and then others, that spoil it. */
    private static void fits(Random random) {
        int[] told = new int[12];
        Arrays.fill(told, -1);
        int length = 0;
        boolean spoilt = random.nextInt(10) == 0;
        for (int year = 0; year < 12; year++) {
            length = Math.min(200, length + 3 * (1 + random.nextInt(6)));
            if (random.nextInt(3) == 0) {
                told[year] = spoilt ? random.nextInt(201) : length;
            }
        }
        fits(told);
    }

    /** At the last of the lengths the greatest number of ways is that of all ways. */
    private static void fitsAtTheEnd() {
        int[] told = new int[12];
        Arrays.fill(told, -1);
        for (int length : new int[] {200, 198, 195, 36, 39, 0}) {
            told[11] = length;
            fits(told);
        }
    }

    private static void fits(int[] told) {
        DUE.promise(26);
        PierTooFar x = new PierTooFar();
        for (int year = 0; year < 12; year++) {
            if (told[year] >= 0) {
                x.did(year, told[year]);
            }
        }
        BigInteger all = BigInteger.ZERO;
        int ask = -1;
        BigInteger least = null;
        for (int year = 0; year < 12; year++) {
            BigInteger greatest = BigInteger.ZERO;
            BigInteger sum = BigInteger.ZERO;
            for (int behind = 0; behind <= 200; behind++) {
                if (told[year] < 0 || told[year] == behind) {
                    BigInteger ways = ways(told, year, behind);
                    greatest = greatest.max(ways);
                    sum = sum.add(ways);
                }
            }
            all = sum;
            if (greatest.signum() > 0 && (least == null || greatest.compareTo(least) < 0)) {
                least = greatest;
                ask = year;
            }
        }
        DUE.is("fits(0)", x.fits(0), all.mod(BigInteger.valueOf(1000000007)).intValue());
        DUE.is("fits(1)", x.fits(1), ask);
    }

    private static BigInteger ways(int[] told, int asked, int behind) {
        BigInteger[] ways = new BigInteger[201];
        Arrays.fill(ways, BigInteger.ZERO);
        ways[0] = BigInteger.ONE;
        for (int year = 0; year < 12; year++) {
            BigInteger[] then = new BigInteger[201];
            Arrays.fill(then, BigInteger.ZERO);
            for (int length = 0; length <= 200; length++) {
                for (int deed = 0; deed < 6 && ways[length].signum() > 0; deed++) {
                    int to = Math.min(200, length + 3 * (deed + 1));
                    boolean fits = (told[year] < 0 || told[year] == to) && (year != asked || to == behind);
                    then[to] = fits ? then[to].add(ways[length]) : then[to];
                }
            }
            ways = then;
        }
        BigInteger sum = BigInteger.ZERO;
        for (BigInteger way : ways) {
            sum = sum.add(way);
        }
        return sum;
    }

    private static void ownsUp(Random random) {
        DUE.promise(28);
        PierTooFar x = new PierTooFar();
        int n = random.nextInt(11);
        int worst = 1 + random.nextInt(99);
        int[] worth = random.ints(n, 0, worst + 1).toArray();
        int[] hides = random.ints(n, 0, 10).toArray();
        for (int i = 0; i < n; i++) {
            x.deed(worth[i], hides[i]);
        }
        for (int h = 0; h <= 40; h++) {
            int least = Integer.MAX_VALUE;
            int best = -1;
            for (int set = (1 << n) - 1; set >= 0; set--) {
                int sum = 0;
                int hidden = 0;
                for (int i = 0; i < n; i++) {
                    sum += (set >> i) % 2 * worth[i];
                    hidden += (1 - (set >> i) % 2) * hides[i];
                }
                if (hidden <= h && sum <= least) {
                    least = sum;
                    best = set;
                }
            }
            DUE.is("ownsUp(" + h + ", 0)", x.ownsUp(h, 0), least);
            DUE.is("ownsUp(" + h + ", 1)", x.ownsUp(h, 1), best);
        }
    }

    private static void prices(Random random) {
        DUE.promise(30);
        PierTooFar x = new PierTooFar();
        int n = random.nextInt(9);
        int[] told = random.ints(n, 1, 100).toArray();
        for (int price : told) {
            x.price(price);
        }
        int sum = 0;
        int highest = 0;
        for (int i = 0; i < n; i++) {
            int due = 0;
            for (int j = 0; j <= i; j++) {
                due = Math.max(due, told[j]);
            }
            sum += due - told[i];
            highest = due;
        }
        DUE.is("prices(0)", x.prices(0), sum);
        DUE.is("prices(1)", x.prices(1), highest);
    }

    private static void reads(Random random) {
        DUE.promise(32);
        PierTooFar x = new PierTooFar();
        String[] words = new String[8];
        for (int word = 0; word < 8; word++) {
            int n = random.nextInt(random.nextBoolean() ? 6 : 3);
            int bits = random.nextInt(1 << n);
            x.lamp(word, n, bits);
            words[word] = row(n, bits);
        }
        int couples = 0;
        for (int a = 0; a < 8; a++) {
            for (int b = 0; b < a; b++) {
                boolean told = !words[a].isEmpty() && !words[b].isEmpty();
                couples += told && (words[a].startsWith(words[b]) || words[b].startsWith(words[a])) ? 1 : 0;
            }
        }
        DUE.is("reads(-1, 0)", x.reads(-1, 0), couples);
        for (int round = 0; round < 40; round++) {
            int n = random.nextInt(11);
            int bits = random.nextInt(1 << n);
            DUE.is("reads(" + n + ", " + bits + ")", x.reads(n, bits), readings(words, row(n, bits)));
        }
    }

    private static String row(int n, int bits) {
        StringBuilder row = new StringBuilder();
        for (int i = 0; i < n; i++) {
            row.append((bits >> i) % 2);
        }
        return row.toString();
    }

    private static int readings(String[] words, String flashes) {
        if (flashes.isEmpty()) {
            return 1;
        }
        int sum = 0;
        for (String word : words) {
            if (!word.isEmpty() && flashes.startsWith(word)) {
                sum += readings(words, flashes.substring(word.length()));
            }
        }
        return sum;
    }

    private static void strength(Random random) {
        DUE.promise(34);
        PierTooFar x = new PierTooFar();
        int most = random.nextInt(101);
        int[] odds = random.ints(10, most - most % 7 / 2, most + 1).toArray();
        for (int part = 0; part < 10; part++) {
            odds[part] = random.nextInt(4) == 0 ? random.nextInt(101) : odds[part];
            x.odds(part, odds[part]);
        }
        for (int n = 0; n <= 5; n++) {
            BigInteger greatest = BigInteger.valueOf(-1);
            int best = -1;
            for (int size = 0; size <= n; size++) {
                for (int set = 0; set < 1024; set++) {
                    BigInteger chance = Integer.bitCount(set) == size ? chance(odds, set) : null;
                    if (chance != null && chance.compareTo(greatest) > 0) {
                        greatest = chance;
                        best = set;
                    }
                }
            }
            long million = 1000000;
            for (int part = 0; part < 10; part++) {
                million = million * (100 - odd(odds, part, best)) / 100;
            }
            DUE.is("strength(" + n + ", 0)", x.strength(n, 0), best);
            DUE.is("strength(" + n + ", 1)", x.strength(n, 1), million);
        }
    }

    private static int odd(int[] odds, int part, int set) {
        return (set >> part) % 2 == 1 ? odds[part] / 2 : odds[part];
    }

    private static BigInteger chance(int[] odds, int set) {
        BigInteger chance = BigInteger.ONE;
        for (int part = 0; part < 10; part++) {
            chance = chance.multiply(BigInteger.valueOf(100 - odd(odds, part, set)));
        }
        return chance;
    }

    /** The fewest nights by rounds: what can be reached with a night more. */
    private static void sleeps(Random random) {
        DUE.promise(35);
        PierTooFar x = new PierTooFar();
        int length = random.nextInt(201);
        x.set(1, 0, length);
        int[] beds = random.ints(0, 200).distinct().limit(random.nextInt(17)).toArray();
        StringBuilder places = new StringBuilder();
        for (int bed : beds) {
            places.append("bed ").append(bed).append(';');
        }
        Due.tell(x, 2, places.toString());
        boolean[] broken = new boolean[200];
        for (int bed : beds) {
            broken[bed] = random.nextInt(6) == 0 && x.act(0, bed);
        }
        for (int m = 1; m <= 40; m++) {
            boolean[] reached = new boolean[201];
            reached[0] = true;
            int due = -1;
            for (int nights = 0; nights <= 16 && due < 0; nights++) {
                boolean[] then = new boolean[201];
                for (int from = 0; from <= 200; from++) {
                    if (reached[from] && length - from <= m) {
                        due = nights;
                    }
                    for (int bed : beds) {
                        boolean usable = bed < length && !broken[bed] && bed + 1 > from && bed + 1 - from <= m;
                        then[bed + 1] |= reached[from] && usable;
                    }
                }
                reached = then;
            }
            DUE.is("sleeps(" + m + ") of " + places + " by " + length, x.sleeps(m), due);
        }
    }

    private static void game(Random random) {
        DUE.promise(37);
        PierTooFar x = new PierTooFar();
        int n = random.nextInt(6);
        int[] planks = random.ints(n, 1, 10).toArray();
        for (int heap : planks) {
            x.walker(heap, 1, 0);
        }
        int dueWho = -1;
        int dueMany = -1;
        for (int w = 0; w < n && dueWho < 0; w++) {
            for (int take = 1; take <= planks[w] && dueWho < 0; take++) {
                if ((take == 1 || take == (planks[w] + 2) / 3) && !winsAfter(planks, w, take)) {
                    dueWho = w;
                    dueMany = take;
                }
            }
        }
        DUE.is("game(0) of " + Arrays.toString(planks), x.game(0), dueWho);
        DUE.is("game(1) of " + Arrays.toString(planks), x.game(1), dueMany);
    }

    private static boolean winsAfter(int[] planks, int w, int take) {
        int[] then = planks.clone();
        then[w] -= take;
        return wins(then, new java.util.HashMap<>());
    }

    private static boolean wins(int[] planks, java.util.Map<String, Boolean> known) {
        int[] sorted = planks.clone();
        Arrays.sort(sorted);
        String key = Arrays.toString(sorted);
        Boolean wins = known.get(key);
        if (wins != null) {
            return wins;
        }
        boolean found = false;
        for (int w = 0; w < sorted.length && !found; w++) {
            for (int take : new int[] {1, (sorted[w] + 2) / 3}) {
                if (sorted[w] > 0 && !found) {
                    int[] then = sorted.clone();
                    then[w] -= take;
                    found = !wins(then, known);
                }
            }
        }
        known.put(key, found);
        return found;
    }
}
