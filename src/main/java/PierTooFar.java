/**
 * A pier that is built on, each year, by the length that its town is ashamed of.
 * What each method promises stands in the project's DOC.md.
 */
public final class PierTooFar {
    public static final int NONE = -1;

    private static final int MILES = 200;
    private static final int PARTS = 10;
    private static final int PART_MILES = 20;
    private static final int WALKERS = 12;
    private static final int LINES = 16;
    private static final int BOOK_LINES = 150;
    private static final int LAST_YEAR = 9999;
    private static final int LAST_DAY = 99999;
    private static final int AT_ONCE = 60;
    private static final int TAPE_BYTES = 400;
    private static final int KEPT = 6;
    private static final int DEEDS = 6;
    private static final int WORST = 99;

    /** The texts by their numbers. */
    private static final int TEXT_LAW = 0;
    private static final int TEXT_DEEDS = 1;
    private static final int TEXT_PLACES = 2;
    private static final int TEXT_SETTING = 3;

    /** What a line of THE BOOK tells. */
    private static final int BUILT = 0;
    private static final int BROKE = 1;
    private static final int MENDED = 2;
    private static final int SET_OFF = 3;
    private static final int TURNED = 4;
    private static final int CAME_HOME = 5;
    private static final int GOT_LOST = 6;

    /** Words of a line of THE LAW, also their places in KEYWORDS. */
    private static final int SHAME = 0;
    private static final int WALKS = 1;
    private static final int STORM = 2;

    /** What THE LAW may ask for: the places in its row of ten. */
    private static final int ASKED = 10;
    private static final int ASK_DEED = 0;
    private static final int ASK_BAD = 1;
    private static final int ASK_LONG = 2;
    private static final int ASK_PACE = 3;
    private static final int ASK_NERVE = 4;
    private static final int ASK_LEFT = 5;
    private static final int ASK_MILE = 6;
    private static final int ASK_WIND = 7;
    private static final int ASK_YEAR = 8;
    private static final int ASK_STRONG = 9;

    /** Sorts of PLACES. */
    private static final int KIOSK = 0;
    private static final int BED = 1;
    private static final int LAMP = 2;

    /** Steps of a line of THE LAW; from 0 on a step is a number, from ASKING on a word that is asked for. */
    private static final int ASKING = 10000;
    private static final int PLUS = -1;
    private static final int MINUS = -2;
    private static final int TIMES = -3;
    private static final int PARTED = -4;
    private static final int LESS = -5;
    private static final int SAME = -6;
    private static final int MORE = -7;
    private static final int BOTH = -8;
    private static final int EITHER = -9;
    private static final int NEGATED = -10;

    private final Whole now = new Whole();
    private final Whole picture = new Whole();
    private final Pier imagined = new Pier(true);
    private final Course course = new Course(now.told, now.log);
    private final Kept kept = new Kept();
    private final Reader reader = new Reader();
    private final Ways ways = new Ways();
    private boolean hasImage = false;

    public PierTooFar() {
    }

    public int state(int v) {
        int before = now.pier.state;
        now.pier.state = v;
        kept.forget();
        return before;
    }

    public int walker(int pace, int days, int nerve) {
        boolean can = within(pace, 1, 9) && within(days, 1, 30) && within(nerve, 0, 9);
        int number = can ? now.told.addWalker(pace, days, nerve) : NONE;
        if (number != NONE) {
            kept.forget();
        }
        return number;
    }

    public boolean set(int what, int who, int v) {
        boolean can;
        switch (what) {
            case 0:
                can = now.told.tellWind(v);
                break;
            case 1:
                can = now.pier.tellLength(v);
                break;
            case 2:
            case 3:
            case 4:
                can = now.told.isWalker(who) && !now.pier.isOnPier(who) && now.told.tellWalker(what, who, v);
                break;
            case 5:
                can = now.told.tellStrong(who, v);
                break;
            default:
                can = false;
                break;
        }
        if (can) {
            kept.forget();
        }
        return can;
    }

    public int owns(int deed, int bad) {
        if (!isDeed(deed, bad)) {
            return NONE;
        }
        kept.keep(now.pier);
        return course.build(now.pier, deed, bad);
    }

    public boolean act(int what, int who) {
        if (!canAct(what, who)) {
            return false;
        }
        kept.keep(now.pier);
        switch (what) {
            case 0:
                course.breakMile(now.pier, who);
                break;
            case 1:
                course.mendMile(now.pier, who);
                break;
            default:
                course.sendOff(now.pier, who);
                break;
        }
        return true;
    }

    private boolean canAct(int what, int who) {
        switch (what) {
            case 0:
                return now.pier.isWhole(who);
            case 1:
                return now.pier.isBroken(who);
            case 2:
                return course.canSetOff(now.pier, who);
            default:
                return false;
        }
    }

    public int years(int n) {
        if (!within(n, 1, AT_ONCE) || now.pier.year > LAST_YEAR - n) {
            return NONE;
        }
        int broke = 0;
        for (int i = 0; i < n; i++) {
            kept.keep(now.pier);
            broke += course.goYear(now.pier);
        }
        return broke;
    }

    public int days(int n) {
        if (!within(n, 1, AT_ONCE) || now.pier.day > LAST_DAY - n) {
            return NONE;
        }
        int home = 0;
        for (int i = 0; i < n; i++) {
            kept.keep(now.pier);
            home += course.goDay(now.pier);
        }
        return home;
    }

    public int feed(int a, int b, int c, int d, int e) {
        if (!reader.hasRoom(20)) {
            return NONE;
        }
        reader.append(a);
        reader.append(b);
        reader.append(c);
        reader.append(d);
        reader.append(e);
        return reader.length;
    }

    public boolean end(int n) {
        return reader.cut(n);
    }

    public int text(int k) {
        switch (k) {
            case TEXT_LAW:
                return reader.readLaw() ? now.told.tellLaw(reader.law) : NONE;
            case TEXT_DEEDS:
                return tellDated(reader.readDeeds(), now.told.deeds);
            case TEXT_PLACES:
                return reader.readPlaces() ? now.told.places.copyFrom(reader.rows) : NONE;
            case TEXT_SETTING:
                return tellDated(reader.readSetting(now.told.walkers), now.told.setting);
            default:
                reader.discard();
                return NONE;
        }
    }

    /** DEEDS and SETTING steer what goes by itself, so what was done can't be undone behind them. */
    private int tellDated(boolean fine, Rows rows) {
        if (!fine) {
            return NONE;
        }
        kept.forget();
        return rows.copyFrom(reader.rows);
    }

    public int fault(int what) {
        switch (what) {
            case 0:
                return reader.fault;
            case 1:
                return reader.faultPlace;
            default:
                return NONE;
        }
    }

    public int of(int walker, int what) {
        if (!now.told.isWalker(walker)) {
            return NONE - 1;
        }
        switch (what) {
            case 0:
                return now.told.pace[walker];
            case 1:
                return now.told.days[walker];
            case 2:
                return now.told.nerve[walker];
            case 3:
                return now.pier.at[walker];
            case 4:
                return now.pier.isOut[walker] ? 1 : 0;
            case 5:
                return now.pier.left[walker];
            case 6:
                return course.walksOf(now.pier, walker);
            default:
                return NONE - 1;
        }
    }

    public int mile(int m, int what) {
        if (!isMile(m)) {
            return NONE;
        }
        switch (what) {
            case 0:
                return now.pier.isBroken(m) ? 1 : 0;
            case 1:
                return now.told.isPlaced(KIOSK, m) ? 1 : 0;
            case 2:
                return now.told.isPlaced(BED, m) ? 1 : 0;
            case 3:
                return now.told.isPlaced(LAMP, m) ? 1 : 0;
            case 4:
                return course.stormOf(now.pier, m / PART_MILES);
            default:
                return NONE;
        }
    }

    public int shame(int deed, int bad) {
        return isDeed(deed, bad) ? course.shameOf(now.pier, deed, bad) : NONE;
    }

    public int book(int i, int what) {
        return within(i, 0, now.pier.lines - 1) ? now.log.entry(i, what) : NONE;
    }

    public int goes(int n, int what) {
        if (!within(n, 1, AT_ONCE) || !within(what, 0, 1)) {
            return NONE;
        }
        imagined.copyFrom(now.pier);
        for (int i = 0; i < n; i++) {
            course.goYear(imagined);
        }
        return what == 0 ? imagined.length : imagined.countBroken();
    }

    public int far(int walker, int what) {
        if (!now.told.isWalker(walker) || !within(what, 0, 1)) {
            return NONE;
        }
        imagined.copyFrom(now.pier);
        int furthest = course.walkThrough(imagined, walker);
        if (what == 0) {
            return furthest;
        }
        boolean home = furthest != NONE && imagined.lost == now.pier.lost;
        return home ? 1 : 0;
    }

    public int next(int m) {
        return isMile(m) ? now.told.nearestKiosk(m, now.pier.length) : NONE;
    }

    public int want(int what, int m) {
        if (!within(what, 0, 1)) {
            return NONE;
        }
        Rows rows = what == 0 ? now.thought.wants : now.thought.sites;
        if (m == NONE) {
            return rows.clear();
        }
        return isMile(m) ? rows.add(m, 0, 0) : NONE;
    }

    public int serves(int k, int what) {
        if (!within(k, 1, 6) || !within(what, 0, 1)) {
            return NONE;
        }
        int best = bestSites(k);
        return what == 0 ? served(best) : best;
    }

    private int bestSites(int most) {
        int sets = 1 << now.thought.sites.count;
        int best = 0;
        int bestServed = served(0);
        for (int set = 1; set < sets; set++) {
            if (Integer.bitCount(set) > most) {
                continue;
            }
            int count = served(set);
            boolean fewer = Integer.bitCount(set) < Integer.bitCount(best);
            if (count > bestServed || count == bestServed && fewer) {
                best = set;
                bestServed = count;
            }
        }
        return best;
    }

    private int served(int set) {
        Rows wants = now.thought.wants;
        int count = 0;
        for (int i = 0; i < wants.count; i++) {
            int mile = wants.first(i);
            int kiosk = now.told.nearestKiosk(mile, now.pier.length);
            if (isNear(kiosk, mile) || now.thought.isServed(mile, set)) {
                count++;
            }
        }
        return count;
    }

    public int boats(int c) {
        if (!within(c, 1, 9)) {
            return NONE;
        }
        int beyond = now.pier.countBeyond();
        if (beyond <= 1) {
            return beyond;
        }
        if (c == 1) {
            return NONE;
        }
        int forth = Math.floorDiv(beyond - 1 + c - 2, c - 1);
        return 2 * forth - 1;
    }

    public int talk(int a, int b, int mile) {
        if (mile == NONE) {
            return now.thought.couples.clear();
        }
        return isWord(a) && isWord(b) && isMile(mile) ? now.thought.couples.add(a, b, mile) : NONE;
    }

    public int said(int word, int m, int o) {
        if (!isMile(m)) {
            return NONE;
        }
        if (isWord(word)) {
            return now.thought.saidAs(word, m);
        }
        return word == NONE && isMile(o) ? now.thought.apart(m, o) : NONE;
    }

    public int did(int year, int length) {
        if (year == NONE) {
            return now.thought.lengths.clear();
        }
        boolean can = within(year, 0, Ways.YEARS - 1) && within(length, 0, MILES);
        return can ? now.thought.lengths.add(year, length, 0) : NONE;
    }

    public int fits(int what) {
        if (!within(what, 0, 1)) {
            return NONE;
        }
        ways.count(now.thought.lengths);
        return what == 0 ? ways.all() : ways.yearToAsk();
    }

    public int deed(int worth, int hides) {
        if (worth == NONE) {
            return now.thought.shames.clear();
        }
        return within(worth, 0, 99) && within(hides, 0, 9) ? now.thought.shames.add(worth, hides, 0) : NONE;
    }

    public int ownsUp(int h, int what) {
        if (!within(h, 0, 40) || !within(what, 0, 1)) {
            return NONE;
        }
        int set = now.thought.cheapestOwned(h);
        return what == 0 ? now.thought.worthOf(set) : set;
    }

    public int price(int v) {
        if (v == NONE) {
            return now.thought.prices.clear();
        }
        return within(v, 1, 99) ? now.thought.prices.add(v, 0, 0) : NONE;
    }

    public int prices(int what) {
        switch (what) {
            case 0:
                return now.thought.raisedSum();
            case 1:
                return now.thought.highestPrice();
            default:
                return NONE;
        }
    }

    public boolean lamp(int word, int n, int bits) {
        boolean can = within(word, 0, Thought.WORDS - 1) && within(n, 0, 5) && areBits(bits, n);
        if (can) {
            now.thought.lamps[word] = n;
            now.thought.code[word] = bits;
        }
        return can;
    }

    public int reads(int n, int bits) {
        if (n == NONE) {
            return now.thought.prefixCouples();
        }
        return within(n, 0, 10) && areBits(bits, n) ? now.thought.readings(n, bits) : NONE;
    }

    public boolean odds(int part, int v) {
        boolean can = isPart(part) && within(v, 0, 100);
        if (can) {
            now.thought.odds[part] = v;
        }
        return can;
    }

    public int strength(int n, int what) {
        if (!within(n, 0, 5) || !within(what, 0, 1)) {
            return NONE;
        }
        int set = now.thought.bestStrengthened(n);
        return what == 0 ? set : now.thought.millionth(set);
    }

    public int sleeps(int m) {
        return within(m, 1, 40) ? nights(m) : NONE;
    }

    /** The furthest bed in reach is never worse than a nearer one, so each night goes there. */
    private int nights(int m) {
        int from = 0;
        for (int night = 0; night <= LINES; night++) {
            if (now.pier.length - from <= m) {
                return night;
            }
            int bed = furthestBed(from, from + m);
            if (bed <= from) {
                return NONE;
            }
            from = bed;
        }
        return NONE;
    }

    /** How far from the shore it is; the start itself, if no bed is in reach. */
    private int furthestBed(int from, int reach) {
        Rows places = now.told.places;
        int furthest = from;
        for (int i = 0; i < places.count; i++) {
            int distance = places.second(i) + 1;
            boolean usable = places.first(i) == BED && now.pier.isWhole(places.second(i));
            if (usable && distance <= reach) {
                furthest = Math.max(furthest, distance);
            }
        }
        return furthest;
    }

    public int meets(int a, int b, int what) {
        boolean two = now.told.isWalker(a) && now.told.isWalker(b) && a != b;
        if (!two || !within(what, 0, 1)) {
            return NONE;
        }
        imagined.copyFrom(now.pier);
        for (int day = 0; day <= 30; day++) {
            course.goDay(imagined);
            if (imagined.isOnPier(a) && imagined.at[a] == imagined.at[b]) {
                return what == 0 ? day : imagined.at[a];
            }
        }
        return NONE;
    }

    public int game(int what) {
        int sum = now.told.plankSum();
        if (sum == 0 || !within(what, 0, 1)) {
            return NONE;
        }
        for (int w = 0; w < now.told.walkers; w++) {
            int taken = now.told.winningTake(w, sum);
            if (taken != NONE) {
                return what == 0 ? w : taken;
            }
        }
        return NONE;
    }

    public boolean undo() {
        return kept.giveBack(now.pier);
    }

    public boolean image(boolean taken) {
        if (taken) {
            picture.copyFrom(now);
            hasImage = true;
        } else if (hasImage) {
            now.copyFrom(picture);
            kept.forget();
        }
        return hasImage;
    }

    public int look(int what) {
        switch (what) {
            case 0:
                return now.told.walkers;
            case 1:
                return now.pier.length;
            case 2:
                return now.pier.countBroken();
            case 3:
                return now.told.wind;
            case 4:
                return now.pier.year;
            case 5:
                return now.pier.day;
            case 6:
                return now.pier.lost;
            case 7:
                return now.pier.setOnPier();
            case 8:
                return now.told.strong;
            case 9:
                return now.pier.lines;
            case 10:
                return now.pier.state;
            case 11:
                return now.told.law.lines;
            case 12:
                return now.told.deeds.count;
            case 13:
                return now.told.places.count;
            case 14:
                return now.told.setting.count;
            case 15:
                return kept.count;
            default:
                return NONE;
        }
    }

    private static boolean within(int v, int least, int most) {
        return v >= least && v <= most;
    }

    private static boolean isMile(int m) {
        return within(m, 0, MILES - 1);
    }

    private static boolean isPart(int part) {
        return within(part, 0, PARTS - 1);
    }

    private static boolean isWord(int word) {
        return within(word, 0, 9);
    }

    private static boolean isDeed(int deed, int bad) {
        return within(deed, 0, DEEDS - 1) && within(bad, 0, WORST);
    }

    private static boolean areBits(int bits, int n) {
        return bits >= 0 && bits < 1 << n;
    }

    /** Whether a kiosk serves a MILE; a kiosk of NONE serves nobody. */
    private static boolean isNear(int kiosk, int mile) {
        return kiosk != NONE && Math.abs(kiosk - mile) <= 10;
    }

    /** Lines of up to three numbers each; what is asked for beyond them is 0. */
    private static final class Rows {
        private final int[] firsts;
        private final int[] seconds;
        private final int[] thirds;
        private int count = 0;

        Rows(int most) {
            firsts = new int[Math.max(0, most)];
            seconds = new int[Math.max(0, most)];
            thirds = new int[Math.max(0, most)];
        }

        boolean isFull() {
            return count >= firsts.length;
        }

        int add(int a, int b, int c) {
            if (isFull()) {
                return NONE;
            }
            firsts[count] = a;
            seconds[count] = b;
            thirds[count] = c;
            count++;
            return count;
        }

        int clear() {
            count = 0;
            return 0;
        }

        int first(int i) {
            return within(i, 0, count - 1) ? firsts[i] : 0;
        }

        int second(int i) {
            return within(i, 0, count - 1) ? seconds[i] : 0;
        }

        int third(int i) {
            return within(i, 0, count - 1) ? thirds[i] : 0;
        }

        boolean contains(int a, int b) {
            for (int i = 0; i < count; i++) {
                if (firsts[i] == a && seconds[i] == b) {
                    return true;
                }
            }
            return false;
        }

        int copyFrom(Rows other) {
            clear();
            for (int i = 0; i < other.count; i++) {
                add(other.firsts[i], other.seconds[i], other.thirds[i]);
            }
            return count;
        }
    }

    /** What goes on by years, by days and by hand: all that UNDO gives back, but the lines of THE BOOK. */
    private static final class Pier {
        /** In thought nothing is drawn and THE BOOK is not written. */
        private final boolean inThought;
        private final boolean[] broken = new boolean[MILES];
        private final int[] at = new int[WALKERS];
        private final boolean[] isOut = new boolean[WALKERS];
        private final int[] left = new int[WALKERS];
        private int state = 0;
        private int length = 0;
        private int year = 0;
        private int day = 0;
        private int lost = 0;
        private int lines = 0;

        Pier(boolean inThought) {
            this.inThought = inThought;
            for (int w = 0; w < WALKERS; w++) {
                at[w] = NONE;
            }
        }

        void copyFrom(Pier other) {
            for (int m = 0; m < MILES; m++) {
                broken[m] = other.broken[m];
            }
            for (int w = 0; w < WALKERS; w++) {
                at[w] = other.at[w];
                isOut[w] = other.isOut[w];
                left[w] = other.left[w];
            }
            state = other.state;
            length = other.length;
            year = other.year;
            day = other.day;
            lost = other.lost;
            lines = other.lines;
        }

        int draw(int m) {
            state = state * 1664525 + 1013904223;
            int high = state >>> 8;
            return m > 0 ? high % m : 0;
        }

        boolean tellLength(int v) {
            if (!within(v, 0, MILES)) {
                return false;
            }
            length = v;
            for (int m = v; m < MILES; m++) {
                broken[m] = false;
            }
            return true;
        }

        /** Neither BROKEN nor none. */
        boolean isWhole(int m) {
            return isMile(m) && m < length && !broken[m];
        }

        boolean isBroken(int m) {
            return isMile(m) && broken[m];
        }

        void mark(int m, boolean isNowBroken) {
            if (isMile(m)) {
                broken[m] = isNowBroken;
            }
        }

        int countBroken() {
            int count = 0;
            for (int m = 0; m < MILES; m++) {
                count += broken[m] ? 1 : 0;
            }
            return count;
        }

        /** MILES, if nothing is BROKEN: nobody is beyond it. */
        private int firstBroken() {
            for (int m = 0; m < MILES; m++) {
                if (broken[m]) {
                    return m;
                }
            }
            return MILES;
        }

        int countBeyond() {
            int gap = firstBroken();
            int count = 0;
            for (int w = 0; w < WALKERS; w++) {
                count += at[w] > gap ? 1 : 0;
            }
            return count;
        }

        boolean isOnPier(int w) {
            return within(w, 0, WALKERS - 1) && at[w] != NONE;
        }

        int setOnPier() {
            int set = 0;
            for (int w = 0; w < WALKERS; w++) {
                set |= at[w] != NONE ? 1 << w : 0;
            }
            return set;
        }

        void start(int w, int daysLeft) {
            if (within(w, 0, WALKERS - 1)) {
                at[w] = 0;
                isOut[w] = true;
                left[w] = daysLeft;
            }
        }

        void land(int w) {
            if (within(w, 0, WALKERS - 1)) {
                at[w] = NONE;
                isOut[w] = false;
                left[w] = 0;
            }
        }
    }

    /** The lines of THE BOOK; how many of them count is told by the Pier. */
    private static final class Log {
        private static final int WIDE = 4;
        private final int[] entries = new int[BOOK_LINES * WIDE];

        void write(Pier pier, int what, int which, int much) {
            if (pier.inThought || !within(pier.lines, 0, BOOK_LINES - 1)) {
                return;
            }
            int from = pier.lines * WIDE;
            entries[from] = pier.year;
            entries[from + 1] = what;
            entries[from + 2] = which;
            entries[from + 3] = much;
            pier.lines++;
        }

        int entry(int i, int what) {
            boolean can = within(i, 0, BOOK_LINES - 1) && within(what, 0, WIDE - 1);
            return can ? entries[i * WIDE + what] : NONE;
        }

        void copyFrom(Log other) {
            for (int i = 0; i < entries.length && i < other.entries.length; i++) {
                entries[i] = other.entries[i];
            }
        }
    }

    /** THE LAW as steps for a stack: of each line the steps of its E, then those of its B, if it has one. */
    private static final class Law {
        private static final int DEEP = 64;
        private final int[] words = new int[LINES];
        private final int[] starts = new int[LINES];
        private final int[] middles = new int[LINES];
        private final int[] ends = new int[LINES];
        private final int[] steps = new int[TAPE_BYTES];
        private final int[] stack = new int[DEEP];
        private int used = 0;
        private int lines = 0;

        void clear() {
            used = 0;
            lines = 0;
        }

        boolean isFull() {
            return lines >= LINES;
        }

        void addStep(int step) {
            if (used < steps.length) {
                steps[used] = step;
                used++;
            }
        }

        void addLine(int word, int start, int middle) {
            if (!isFull()) {
                words[lines] = word;
                starts[lines] = start;
                middles[lines] = middle;
                ends[lines] = used;
                lines++;
            }
        }

        void copyFrom(Law other) {
            for (int i = 0; i < LINES; i++) {
                words[i] = other.words[i];
                starts[i] = other.starts[i];
                middles[i] = other.middles[i];
                ends[i] = other.ends[i];
            }
            for (int i = 0; i < steps.length && i < other.steps.length; i++) {
                steps[i] = other.steps[i];
            }
            used = other.used;
            lines = other.lines;
        }

        /** What the first line says that is so, or otherwise; held to 0 .. most. */
        int tells(int word, int[] asked, int otherwise, int most) {
            int told = otherwise;
            for (int i = 0; i < lines && i < LINES; i++) {
                boolean bound = middles[i] < ends[i];
                if (words[i] == word && (!bound || worked(middles[i], ends[i], asked) != 0)) {
                    told = worked(starts[i], middles[i], asked);
                    break;
                }
            }
            return Math.max(0, Math.min(most, told));
        }

        private int worked(int from, int to, int[] asked) {
            int top = 0;
            for (int i = Math.max(0, from); i < to && i < steps.length; i++) {
                int step = steps[i];
                if (step >= 0) {
                    if (top < DEEP) {
                        stack[top] = valueOf(step, asked);
                        top++;
                    }
                } else if (step == NEGATED) {
                    if (top >= 1) {
                        stack[top - 1] = 1 - stack[top - 1];
                    }
                } else if (top >= 2) {
                    top--;
                    stack[top - 1] = joined(step, stack[top - 1], stack[top]);
                }
            }
            return top > 0 ? stack[0] : 0;
        }

        private static int valueOf(int step, int[] asked) {
            int which = step - ASKING;
            if (which < 0) {
                return step;
            }
            return which < asked.length ? asked[which] : 0;
        }

        private static int joined(int step, int a, int b) {
            switch (step) {
                case PLUS:
                    return a + b;
                case MINUS:
                    return a - b;
                case TIMES:
                    return a * b;
                case PARTED:
                    return b == 0 ? 0 : a / b;
                case LESS:
                    return a < b ? 1 : 0;
                case SAME:
                    return a == b ? 1 : 0;
                case MORE:
                    return a > b ? 1 : 0;
                case BOTH:
                    return a & b;
                case EITHER:
                    return a | b;
                default:
                    return 0;
            }
        }
    }

    /** What is told of the pier and its walkers, and goes on by no year and no day. */
    private static final class Told {
        /**
         * Of a heap of 0 .. 9 planks its number for the game of single heaps (the least that no taking
         * leads to): who begins loses, if the numbers of all heaps joined by exclusive or are 0.
         */
        private static final int[] HEAP_NUMBERS = {0, 1, 0, 1, 2, 0, 1, 0, 1, 0};

        private final int[] pace = new int[WALKERS];
        private final int[] days = new int[WALKERS];
        private final int[] nerve = new int[WALKERS];
        private final Law law = new Law();
        private final Rows deeds = new Rows(LINES);
        private final Rows places = new Rows(LINES);
        private final Rows setting = new Rows(LINES);
        private int walkers = 0;
        private int wind = 0;
        private int strong = 0;

        void copyFrom(Told other) {
            for (int w = 0; w < WALKERS; w++) {
                pace[w] = other.pace[w];
                days[w] = other.days[w];
                nerve[w] = other.nerve[w];
            }
            law.copyFrom(other.law);
            deeds.copyFrom(other.deeds);
            places.copyFrom(other.places);
            setting.copyFrom(other.setting);
            walkers = other.walkers;
            wind = other.wind;
            strong = other.strong;
        }

        boolean isWalker(int w) {
            return w >= 0 && w < walkers && w < WALKERS;
        }

        int addWalker(int itsPace, int itsDays, int itsNerve) {
            if (!within(walkers, 0, WALKERS - 1)) {
                return NONE;
            }
            pace[walkers] = itsPace;
            days[walkers] = itsDays;
            nerve[walkers] = itsNerve;
            walkers++;
            return walkers - 1;
        }

        boolean tellWind(int v) {
            boolean can = within(v, 0, 9);
            wind = can ? v : wind;
            return can;
        }

        /** What 2 PACE, 3 DAYS, 4 NERVE. */
        boolean tellWalker(int what, int w, int v) {
            int least = what == 4 ? 0 : 1;
            int most = what == 3 ? 30 : 9;
            if (!isWalker(w) || !within(v, least, most)) {
                return false;
            }
            if (what == 2) {
                pace[w] = v;
            } else if (what == 3) {
                days[w] = v;
            } else {
                nerve[w] = v;
            }
            return true;
        }

        boolean tellStrong(int part, int v) {
            if (!isPart(part) || !within(v, 0, 1)) {
                return false;
            }
            int bit = 1 << part;
            strong = v == 1 ? strong | bit : strong & ~bit;
            return true;
        }

        int tellLaw(Law told) {
            law.copyFrom(told);
            return law.lines;
        }

        boolean isPlaced(int sort, int m) {
            return places.contains(sort, m);
        }

        int nearestKiosk(int m, int length) {
            int nearest = NONE;
            for (int i = 0; i < places.count; i++) {
                int kiosk = places.second(i);
                if (places.first(i) == KIOSK && kiosk < length && isBetter(kiosk, nearest, m)) {
                    nearest = kiosk;
                }
            }
            return nearest;
        }

        private static boolean isBetter(int kiosk, int nearest, int m) {
            int gap = Math.abs(kiosk - m);
            int least = Math.abs(nearest - m);
            return nearest == NONE || gap < least || gap == least && kiosk < nearest;
        }

        private static int heapNumber(int planks) {
            return within(planks, 0, HEAP_NUMBERS.length - 1) ? HEAP_NUMBERS[planks] : 0;
        }

        int plankSum() {
            int sum = 0;
            for (int w = 0; w < walkers && w < WALKERS; w++) {
                sum ^= heapNumber(pace[w]);
            }
            return sum;
        }

        /** The fewest planks to take from his heap so that the other one loses; NONE, if no taking does. */
        int winningTake(int w, int sum) {
            if (!isWalker(w)) {
                return NONE;
            }
            int planks = pace[w];
            int due = sum ^ heapNumber(planks);
            int third = Math.floorDiv(planks + 2, 3);
            if (heapNumber(planks - 1) == due) {
                return 1;
            }
            return heapNumber(planks - third) == due ? third : NONE;
        }
    }

    /** How years and days go, on the pier itself or on one in thought. */
    private static final class Course {
        private final Told told;
        private final Log log;
        private final int[] asked = new int[ASKED];

        Course(Told told, Log log) {
            this.told = told;
            this.log = log;
        }

        private void ask(Pier pier) {
            for (int i = 0; i < ASKED; i++) {
                asked[i] = 0;
            }
            asked[ASK_LONG] = pier.length;
            asked[ASK_WIND] = told.wind;
        }

        int shameOf(Pier pier, int deed, int bad) {
            ask(pier);
            asked[ASK_DEED] = deed;
            asked[ASK_BAD] = bad;
            asked[ASK_YEAR] = pier.year;
            return told.law.tells(SHAME, asked, bad / 9 + 1, 20);
        }

        int walksOf(Pier pier, int w) {
            if (!told.isWalker(w)) {
                return 0;
            }
            ask(pier);
            asked[ASK_PACE] = told.pace[w];
            asked[ASK_NERVE] = told.nerve[w];
            asked[ASK_LEFT] = pier.left[w];
            asked[ASK_MILE] = Math.max(0, pier.at[w]);
            return told.law.tells(WALKS, asked, told.pace[w], 20);
        }

        int stormOf(Pier pier, int part) {
            ask(pier);
            asked[ASK_MILE] = part * PART_MILES;
            asked[ASK_YEAR] = pier.year;
            asked[ASK_STRONG] = told.strong >> part & 1;
            return told.law.tells(STORM, asked, 10 * told.wind, 1000);
        }

        int build(Pier pier, int deed, int bad) {
            int before = pier.length;
            pier.length = Math.min(MILES, before + shameOf(pier, deed, bad));
            log.write(pier, BUILT, deed, pier.length - before);
            return pier.length - before;
        }

        void breakMile(Pier pier, int m) {
            pier.mark(m, true);
            log.write(pier, BROKE, m, pier.length);
        }

        void mendMile(Pier pier, int m) {
            pier.mark(m, false);
            log.write(pier, MENDED, m, pier.length);
        }

        int goYear(Pier pier) {
            Rows deeds = told.deeds;
            for (int i = 0; i < deeds.count; i++) {
                if (deeds.first(i) == pier.year) {
                    build(pier, deeds.second(i), deeds.third(i));
                }
            }
            int broke = 0;
            for (int part = 0; part < PARTS && part * PART_MILES < pier.length; part++) {
                int mile = struckMile(pier, part);
                if (pier.isWhole(mile)) {
                    breakMile(pier, mile);
                    broke++;
                }
            }
            pier.year++;
            return broke;
        }

        /** NONE, if the storm strikes none of the part's MILES. */
        private int struckMile(Pier pier, int part) {
            int storm = stormOf(pier, part);
            if (pier.inThought) {
                return storm >= 500 ? part * PART_MILES : NONE;
            }
            if (storm == 0 || pier.draw(1000) >= storm) {
                return NONE;
            }
            return part * PART_MILES + pier.draw(PART_MILES);
        }

        int goDay(Pier pier) {
            Rows setting = told.setting;
            for (int i = 0; i < setting.count; i++) {
                if (setting.first(i) == pier.day) {
                    sendOff(pier, setting.second(i));
                }
            }
            int home = 0;
            for (int w = 0; w < told.walkers; w++) {
                home += goWalker(pier, w) ? 1 : 0;
            }
            pier.day++;
            return home;
        }

        boolean canSetOff(Pier pier, int w) {
            return told.isWalker(w) && !pier.isOnPier(w) && pier.isWhole(0);
        }

        void sendOff(Pier pier, int w) {
            if (canSetOff(pier, w)) {
                pier.start(w, told.days[w]);
                log.write(pier, SET_OFF, w, pier.day);
            }
        }

        /** His day; whether he came home on it. */
        private boolean goWalker(Pier pier, int w) {
            if (!told.isWalker(w) || !pier.isOnPier(w)) {
                return false;
            }
            pier.left[w]--;
            if (pier.isOut[w] && pier.left[w] <= told.days[w] / 2) {
                turnBack(pier, w);
            }
            int steps = walksOf(pier, w);
            boolean walking = true;
            for (int i = 0; i < steps && walking; i++) {
                walking = step(pier, w);
            }
            if (!pier.isOnPier(w)) {
                return true;
            }
            if (pier.left[w] <= 0) {
                lose(pier, w);
            }
            return false;
        }

        /** Whether he can walk on behind it on the same day. */
        private boolean step(Pier pier, int w) {
            int to = pier.isOut[w] ? pier.at[w] + 1 : pier.at[w] - 1;
            if (to < 0) {
                pier.land(w);
                log.write(pier, CAME_HOME, w, pier.day);
                return false;
            }
            if (!pier.isWhole(to)) {
                if (pier.isOut[w]) {
                    turnBack(pier, w);
                }
                return false;
            }
            pier.at[w] = to;
            return true;
        }

        private void turnBack(Pier pier, int w) {
            pier.isOut[w] = false;
            log.write(pier, TURNED, w, pier.at[w]);
        }

        private void lose(Pier pier, int w) {
            log.write(pier, GOT_LOST, w, pier.at[w]);
            pier.land(w);
            pier.lost++;
        }

        /** His whole walk from the shore: the furthest MILE; NONE, if he can't set off. */
        int walkThrough(Pier pier, int w) {
            pier.land(w);
            if (!canSetOff(pier, w)) {
                return NONE;
            }
            sendOff(pier, w);
            int furthest = 0;
            for (int day = 0; day < told.days[w]; day++) {
                goWalker(pier, w);
                furthest = Math.max(furthest, pier.at[w]);
            }
            return furthest;
        }
    }

    /** The piers as they were before what was done last, the newest first. */
    private static final class Kept {
        private final Pier[] piers = new Pier[KEPT];
        private int newest = 0;
        private int count = 0;

        Kept() {
            for (int i = 0; i < KEPT; i++) {
                piers[i] = new Pier(false);
            }
        }

        void keep(Pier pier) {
            newest = Math.floorMod(newest + 1, KEPT);
            Pier slot = piers[newest];
            if (slot != null) {
                slot.copyFrom(pier);
            }
            count = Math.min(KEPT, count + 1);
        }

        boolean giveBack(Pier pier) {
            Pier slot = piers[newest];
            if (count == 0 || slot == null) {
                return false;
            }
            pier.copyFrom(slot);
            newest = Math.floorMod(newest - 1, KEPT);
            count--;
            return true;
        }

        void forget() {
            count = 0;
        }
    }

    /** All that THE IMAGE holds. */
    private static final class Whole {
        private final Pier pier = new Pier(false);
        private final Told told = new Told();
        private final Thought thought = new Thought();
        private final Log log = new Log();

        void copyFrom(Whole other) {
            pier.copyFrom(other.pier);
            told.copyFrom(other.told);
            thought.copyFrom(other.thought);
            log.copyFrom(other.log);
        }
    }

    /** What is told for thought alone, and what follows from it without the pier. */
    private static final class Thought {
        private static final int WORDS = 8;
        private static final int FLASHES = 10;
        private final Rows wants = new Rows(20);
        private final Rows sites = new Rows(10);
        private final Rows couples = new Rows(16);
        private final Rows lengths = new Rows(12);
        private final Rows shames = new Rows(10);
        private final Rows prices = new Rows(8);
        private final int[] lamps = new int[WORDS];
        private final int[] code = new int[WORDS];
        private final int[] odds = new int[PARTS];
        private final int[] readings = new int[FLASHES + 1];

        void copyFrom(Thought other) {
            wants.copyFrom(other.wants);
            sites.copyFrom(other.sites);
            couples.copyFrom(other.couples);
            lengths.copyFrom(other.lengths);
            shames.copyFrom(other.shames);
            prices.copyFrom(other.prices);
            for (int i = 0; i < WORDS; i++) {
                lamps[i] = other.lamps[i];
                code[i] = other.code[i];
            }
            for (int i = 0; i < PARTS; i++) {
                odds[i] = other.odds[i];
            }
        }

        boolean isServed(int mile, int set) {
            for (int i = 0; i < sites.count; i++) {
                if ((set >> i & 1) == 1 && isNear(sites.first(i), mile)) {
                    return true;
                }
            }
            return false;
        }

        int saidAs(int word, int mile) {
            int as = word;
            for (int i = 0; i < couples.count; i++) {
                if (couples.third(i) <= mile && couples.first(i) == as) {
                    as = couples.second(i);
                }
            }
            return as;
        }

        int apart(int m, int o) {
            int count = 0;
            for (int word = 0; word < 10; word++) {
                count += saidAs(word, m) != saidAs(word, o) ? 1 : 0;
            }
            return count;
        }

        int worthOf(int set) {
            int worth = 0;
            for (int i = 0; i < shames.count; i++) {
                worth += (set >> i & 1) == 1 ? shames.first(i) : 0;
            }
            return worth;
        }

        private int hiddenBy(int set) {
            int hides = 0;
            for (int i = 0; i < shames.count; i++) {
                hides += (set >> i & 1) == 0 ? shames.second(i) : 0;
            }
            return hides;
        }

        int cheapestOwned(int h) {
            int all = (1 << shames.count) - 1;
            int best = all;
            for (int set = 0; set <= all; set++) {
                boolean cheaper = worthOf(set) < worthOf(best) || worthOf(set) == worthOf(best) && set < best;
                if (cheaper && hiddenBy(set) <= h) {
                    best = set;
                }
            }
            return best;
        }

        int raisedSum() {
            int highest = 0;
            int sum = 0;
            for (int i = 0; i < prices.count; i++) {
                highest = Math.max(highest, prices.first(i));
                sum += highest - prices.first(i);
            }
            return sum;
        }

        int highestPrice() {
            int highest = 0;
            for (int i = 0; i < prices.count; i++) {
                highest = Math.max(highest, prices.first(i));
            }
            return highest;
        }

        int prefixCouples() {
            int count = 0;
            for (int a = 0; a < WORDS; a++) {
                for (int b = a + 1; b < WORDS; b++) {
                    int shorter = Math.min(lamps[a], lamps[b]);
                    int alike = (1 << shorter) - 1;
                    count += shorter > 0 && ((code[a] ^ code[b]) & alike) == 0 ? 1 : 0;
                }
            }
            return count;
        }

        int readings(int n, int bits) {
            readings[0] = 1;
            for (int to = 1; to <= n && to <= FLASHES; to++) {
                readings[to] = 0;
                for (int word = 0; word < WORDS; word++) {
                    int from = to - lamps[word];
                    boolean fits = lamps[word] > 0 && from >= 0 && isWordAt(word, bits, from);
                    readings[to] += fits ? readings[from] : 0;
                }
            }
            return within(n, 0, FLASHES) ? readings[n] : 0;
        }

        private boolean isWordAt(int word, int bits, int from) {
            int mask = (1 << lamps[word]) - 1;
            return (bits >> from & mask) == code[word];
        }

        /** Of a hundred, that the part does not break. */
        private int holds(int part, int set) {
            int odd = (set >> part & 1) == 1 ? odds[part] / 2 : odds[part];
            return 100 - odd;
        }

        private long product(int from, int to, int set) {
            long product = 1;
            for (int part = from; part < to && part < PARTS; part++) {
                product *= holds(part, set);
            }
            return product;
        }

        /**
         * Whether nothing breaks by set more likely than by other. The product of ten is beyond a long,
         * so it is compared as a high number and a low one of five digits.
         */
        private boolean isSafer(int set, int other) {
            long high = highOf(set);
            long otherHigh = highOf(other);
            return high > otherHigh || high == otherHigh && lowOf(set) > lowOf(other);
        }

        private long highOf(int set) {
            long near = product(0, 5, set);
            long far = product(5, 10, set);
            return near * (far / 100000) + near * (far % 100000) / 100000;
        }

        private long lowOf(int set) {
            long near = product(0, 5, set);
            long far = product(5, 10, set);
            return near * (far % 100000) % 100000;
        }

        int bestStrengthened(int most) {
            int best = 0;
            for (int set = 1; set < 1 << PARTS; set++) {
                if (Integer.bitCount(set) > most) {
                    continue;
                }
                boolean fewer = Integer.bitCount(set) < Integer.bitCount(best);
                if (isSafer(set, best) || fewer && !isSafer(best, set)) {
                    best = set;
                }
            }
            return best;
        }

        int millionth(int set) {
            int chance = 1000000;
            for (int part = 0; part < PARTS; part++) {
                chance = chance * holds(part, set) / 100;
            }
            return chance;
        }
    }

    /** In how many ways deeds of twelve years fit the told lengths, by each year and each LONG behind it. */
    private static final class Ways {
        private static final int YEARS = 12;
        private static final int MODULUS = 1000000007;
        private final long[][] here = new long[YEARS][MILES + 1];
        private final long[][] onward = new long[YEARS][MILES + 1];

        void count(Rows lengths) {
            countHere(lengths);
            countOnward(lengths);
        }

        private static int longer(int length, int deed) {
            return Math.min(MILES, length + (deed + 1) * 3);
        }

        private static boolean isTold(Rows lengths, int year, int length) {
            for (int i = 0; i < lengths.count; i++) {
                if (lengths.first(i) == year && lengths.second(i) != length) {
                    return false;
                }
            }
            return true;
        }

        private void countHere(Rows lengths) {
            for (int year = 0; year < YEARS; year++) {
                for (int length = 0; length <= MILES; length++) {
                    here[year][length] = 0;
                }
                for (int length = 0; length <= MILES; length++) {
                    long before = year > 0 ? here[year - 1][length] : length == 0 ? 1 : 0;
                    for (int deed = 0; before > 0 && deed < DEEDS; deed++) {
                        here[year][longer(length, deed)] += before;
                    }
                }
                for (int length = 0; length <= MILES; length++) {
                    here[year][length] = isTold(lengths, year, length) ? here[year][length] : 0;
                }
            }
        }

        private void countOnward(Rows lengths) {
            for (int year = YEARS - 1; year >= 0; year--) {
                for (int length = 0; length <= MILES; length++) {
                    onward[year][length] = year == YEARS - 1 ? 1 : onwardFrom(lengths, year + 1, length);
                }
            }
        }

        private long onwardFrom(Rows lengths, int year, int before) {
            long sum = 0;
            for (int deed = 0; deed < DEEDS && year < YEARS; deed++) {
                int length = longer(before, deed);
                sum += isTold(lengths, year, length) ? onward[year][length] : 0;
            }
            return sum;
        }

        int all() {
            long sum = 0;
            for (int length = 0; length <= MILES; length++) {
                sum += here[YEARS - 1][length];
            }
            return (int) (sum % MODULUS);
        }

        private long greatest(int year) {
            long greatest = 0;
            for (int length = 0; length <= MILES; length++) {
                greatest = Math.max(greatest, here[year][length] * onward[year][length]);
            }
            return greatest;
        }

        /** The year whose answer leaves the fewest ways at the worst; NONE, if there is no way at all. */
        int yearToAsk() {
            int best = 0;
            for (int year = 1; year < YEARS; year++) {
                best = greatest(year) < greatest(best) ? year : best;
            }
            return greatest(best) > 0 ? best : NONE;
        }
    }

    /** The TAPE, its tokens, and the reading of the four texts from it. */
    private static final class Reader {
        private static final String KEYWORDS =
                "shame walks storm deed bad long pace nerve left mile wind year strong when or and not in kiosk bed lamp on";
        private static final String SIGNS = ";+-*/()<=>";
        private static final int OPEN = 8;
        private static final int DIGITS = 4;

        /** Sorts of tokens: a sign is its own character, a keyword KEYWORD and its place in KEYWORDS. */
        private static final int END = 0;
        private static final int NUMBER = 256;
        private static final int STRANGE = 257;
        private static final int KEYWORD = 1000;
        private static final int KEY_SHAME = KEYWORD;
        private static final int KEY_STORM = KEYWORD + 2;
        private static final int KEY_DEED = KEYWORD + 3;
        private static final int KEY_BAD = KEYWORD + 4;
        private static final int KEY_STRONG = KEYWORD + 12;
        private static final int KEY_WHEN = KEYWORD + 13;
        private static final int KEY_OR = KEYWORD + 14;
        private static final int KEY_AND = KEYWORD + 15;
        private static final int KEY_NOT = KEYWORD + 16;
        private static final int KEY_IN = KEYWORD + 17;
        private static final int KEY_KIOSK = KEYWORD + 18;
        private static final int KEY_LAMP = KEYWORD + 20;
        private static final int KEY_ON = KEYWORD + 21;

        private final char[] tape = new char[TAPE_BYTES];
        private final int[] sorts = new int[TAPE_BYTES];
        private final int[] values = new int[TAPE_BYTES];
        private final int[] places = new int[TAPE_BYTES];
        private final Law law = new Law();
        private final Rows rows = new Rows(LINES);
        private int length = 0;
        private int textLength = 0;
        private int tokens = 0;
        private int here = 0;
        private int fault = 0;
        private int faultPlace = NONE;

        boolean hasRoom(int bytes) {
            return length + bytes <= TAPE_BYTES;
        }

        void append(int four) {
            for (int shift = 24; shift >= 0 && within(length, 0, TAPE_BYTES - 1); shift -= 8) {
                tape[length] = (char) (four >>> shift & 255);
                length++;
            }
        }

        boolean cut(int n) {
            if (!within(n, 0, length)) {
                return false;
            }
            length = n;
            return true;
        }

        /** Every text() leaves the TAPE empty and the latest fault forgotten, also one of no such text. */
        void discard() {
            fault = 0;
            faultPlace = NONE;
            length = 0;
        }

        /** Makes the tokens of the TAPE. */
        private void scan() {
            tokens = 0;
            here = 0;
            textLength = length;
            discard();
            int from = 0;
            for (int i = 0; i < TAPE_BYTES && from < textLength; i++) {
                int to = tokenEnd(from);
                if (!isBlank(byteAt(from))) {
                    addToken(from, to);
                }
                from = to;
            }
        }

        private char byteAt(int i) {
            return within(i, 0, TAPE_BYTES - 1) ? tape[i] : 0;
        }

        private static boolean isBlank(char c) {
            return c == 32 || c == 10;
        }

        private static boolean isLetter(char c) {
            return c >= 'a' && c <= 'z' || c >= 'A' && c <= 'Z';
        }

        private static boolean isDigit(char c) {
            return c >= '0' && c <= '9';
        }

        /** Letters and digits stand together as long as they can, all else alone. */
        private int tokenEnd(int from) {
            boolean letters = isLetter(byteAt(from));
            boolean digits = isDigit(byteAt(from));
            int to = from + 1;
            while (to < textLength && (letters && isLetter(byteAt(to)) || digits && isDigit(byteAt(to)))) {
                to++;
            }
            return to;
        }

        private void addToken(int from, int to) {
            if (tokens >= TAPE_BYTES) {
                return;
            }
            char first = byteAt(from);
            int sort = STRANGE;
            int value = 0;
            if (isLetter(first)) {
                sort = keyword(from, to);
            } else if (isDigit(first) && to - from <= DIGITS) {
                sort = NUMBER;
                value = number(from, to);
            } else if (SIGNS.indexOf(first) >= 0) {
                sort = first;
            }
            sorts[tokens] = sort;
            values[tokens] = value;
            places[tokens] = from;
            tokens++;
        }

        private int number(int from, int to) {
            int number = 0;
            for (int i = from; i < to; i++) {
                number = 10 * number + byteAt(i) - '0';
            }
            return number;
        }

        private int keyword(int from, int to) {
            int which = 0;
            int start = 0;
            for (int i = 0; i <= KEYWORDS.length(); i++) {
                if (i == KEYWORDS.length() || KEYWORDS.charAt(i) == ' ') {
                    if (isSame(start, i, from, to)) {
                        return KEYWORD + which;
                    }
                    which++;
                    start = i + 1;
                }
            }
            return STRANGE;
        }

        private boolean isSame(int start, int end, int from, int to) {
            if (end - start != to - from) {
                return false;
            }
            for (int i = 0; i < to - from; i++) {
                if (KEYWORDS.charAt(start + i) != byteAt(from + i)) {
                    return false;
                }
            }
            return true;
        }

        private int sort() {
            return here >= 0 && here < tokens && here < TAPE_BYTES ? sorts[here] : END;
        }

        private int value() {
            return here >= 0 && here < tokens && here < TAPE_BYTES ? values[here] : 0;
        }

        private boolean fail(int which) {
            fault = which;
            faultPlace = here >= 0 && here < tokens && here < TAPE_BYTES ? places[here] : textLength;
            return false;
        }

        private boolean take(int sort) {
            if (sort() != sort) {
                return fail(1);
            }
            here++;
            return true;
        }

        /** NONE behind a fault. */
        private int takeNumber(int most) {
            if (sort() != NUMBER) {
                fail(1);
                return NONE;
            }
            int value = value();
            if (value > most) {
                fail(2);
                return NONE;
            }
            here++;
            return value;
        }

        /** The KEYWORD of a line, one of those from least to most. */
        private boolean begin(int least, int most, boolean isFull) {
            if (!within(sort(), least, most)) {
                return fail(1);
            }
            if (isFull) {
                return fail(3);
            }
            here++;
            return true;
        }

        boolean readDeeds() {
            scan();
            rows.clear();
            for (int line = 0; line <= LINES && sort() != END; line++) {
                if (!begin(KEY_IN, KEY_IN, rows.isFull()) || !deedLine()) {
                    return false;
                }
            }
            return true;
        }

        private boolean deedLine() {
            int year = takeNumber(999);
            if (year == NONE || !take(KEY_DEED)) {
                return false;
            }
            int deed = takeNumber(DEEDS - 1);
            if (deed == NONE || !take(KEY_BAD)) {
                return false;
            }
            int bad = takeNumber(WORST);
            if (bad == NONE || !take(';')) {
                return false;
            }
            rows.add(year, deed, bad);
            return true;
        }

        boolean readPlaces() {
            scan();
            rows.clear();
            for (int line = 0; line <= LINES && sort() != END; line++) {
                int placed = sort() - KEY_KIOSK;
                if (!begin(KEY_KIOSK, KEY_LAMP, rows.isFull()) || !placeLine(placed)) {
                    return false;
                }
            }
            return true;
        }

        private boolean placeLine(int placed) {
            if (sort() == NUMBER && rows.contains(placed, value())) {
                return fail(2);
            }
            int mile = takeNumber(MILES - 1);
            if (mile == NONE || !take(';')) {
                return false;
            }
            rows.add(placed, mile, 0);
            return true;
        }

        boolean readSetting(int walkers) {
            scan();
            rows.clear();
            for (int line = 0; line <= LINES && sort() != END; line++) {
                if (!begin(KEY_ON, KEY_ON, rows.isFull()) || !settingLine(walkers)) {
                    return false;
                }
            }
            return true;
        }

        private boolean settingLine(int walkers) {
            int day = takeNumber(999);
            if (day == NONE) {
                return false;
            }
            int walker = takeNumber(walkers - 1);
            if (walker == NONE || !take(';')) {
                return false;
            }
            rows.add(day, walker, 0);
            return true;
        }

        boolean readLaw() {
            scan();
            law.clear();
            for (int line = 0; line <= LINES && sort() != END; line++) {
                int word = sort() - KEY_SHAME;
                if (!begin(KEY_SHAME, KEY_STORM, law.isFull()) || !lawLine(word)) {
                    return false;
                }
            }
            return true;
        }

        private boolean lawLine(int word) {
            int start = law.used;
            if (!sum()) {
                return false;
            }
            int middle = law.used;
            if (sort() == KEY_WHEN) {
                here++;
                if (!either(0)) {
                    return false;
                }
            }
            if (!take(';')) {
                return false;
            }
            law.addLine(word, start, middle);
            return true;
        }

        /** B with its A in one: an "or" waits until all that binds closer behind it is done. */
        private boolean either(int open) {
            if (!claim(open)) {
                return false;
            }
            boolean waits = false;
            for (int i = 0; i < TAPE_BYTES && (sort() == KEY_OR || sort() == KEY_AND); i++) {
                boolean isOr = sort() == KEY_OR;
                here++;
                if (isOr && waits) {
                    law.addStep(EITHER);
                }
                waits = waits || isOr;
                if (!claim(open)) {
                    return false;
                }
                if (!isOr) {
                    law.addStep(BOTH);
                }
            }
            if (waits) {
                law.addStep(EITHER);
            }
            return true;
        }

        /** C; open tells how many "(" and "not" are open around it. */
        private boolean claim(int open) {
            boolean isNot = sort() == KEY_NOT;
            if (isNot || sort() == '(') {
                if (open >= OPEN) {
                    return fail(3);
                }
                here++;
                if (!isNot) {
                    return either(open + 1) && take(')');
                }
                if (!claim(open + 1)) {
                    return false;
                }
                law.addStep(NEGATED);
                return true;
            }
            if (!sum()) {
                return false;
            }
            int step = sort() == '<' ? LESS : sort() == '=' ? SAME : sort() == '>' ? MORE : 0;
            if (step == 0) {
                return fail(1);
            }
            here++;
            if (!sum()) {
                return false;
            }
            law.addStep(step);
            return true;
        }

        /** E with its T in one: a "+" or "-" waits until the product behind it is done. */
        private boolean sum() {
            if (!unit()) {
                return false;
            }
            int waits = 0;
            for (int i = 0; i < TAPE_BYTES; i++) {
                int sign = sort();
                if (sign != '+' && sign != '-' && sign != '*' && sign != '/') {
                    break;
                }
                here++;
                boolean isSum = sign == '+' || sign == '-';
                if (isSum && waits != 0) {
                    law.addStep(waits);
                }
                if (sign == '/' ? !divisor() : !unit()) {
                    return false;
                }
                if (isSum) {
                    waits = sign == '+' ? PLUS : MINUS;
                } else {
                    law.addStep(sign == '*' ? TIMES : PARTED);
                }
            }
            if (waits != 0) {
                law.addStep(waits);
            }
            return true;
        }

        private boolean unit() {
            if (sort() == NUMBER) {
                law.addStep(value());
            } else if (within(sort(), KEY_DEED, KEY_STRONG)) {
                law.addStep(ASKING + sort() - KEY_DEED);
            } else {
                return fail(1);
            }
            here++;
            return true;
        }

        private boolean divisor() {
            if (sort() != NUMBER) {
                return fail(1);
            }
            if (value() == 0) {
                return fail(2);
            }
            law.addStep(value());
            here++;
            return true;
        }
    }
}
