/**
 * Children's kites who each hold on to the next one's tail, the first one held
 * by a boy on the dyke: told as a text, flown, changed, undone and asked about.
 */
public final class KiteYards {
    public static final int UNKNOWN = -1, BAD = -2, LATE = -3, FULL = -4, NONE = -9;

    private static final int MOST_LETTERS = 32;
    private static final int MOST_KITES = 5;
    private static final int MOST_ACTS = 14;
    private static final int MOST_SEEN = 6;
    private static final int SLOTS = 2;

    private static final int MOST_YARDS = 30;
    private static final int MOST_LET_OUT = 9;
    private static final int MOST_MORE = 3;

    /** Winds and bridles lie from -MOST_LEAN to MOST_LEAN and are told as that much more. */
    private static final int MOST_LEAN = 2;
    private static final int LEANS = 5;
    private static final int PLACES_TOLD_MORE = 100;

    private static final int FARTHEST_ASKED = 100;
    private static final int FARTHEST_SEEN_AT = 30;
    private static final int FARTHEST_WANTED = 20;
    private static final int FARTHEST_SHARED = 9;

    private static final int TUGS = 4;
    private static final int MOST_FIGURES = 6;
    private static final int TENTHS = 10;
    private static final int MOST_AFTERNOONS = 30;

    private static final long SEED_TIMES = 6364136223846793005L;
    private static final long SEED_MORE = 1442695040888963407L;
    private static final int SEED_LOWER_BITS = 33;

    private static final int HEAD_LETTERS = 6;
    private static final int PART_LETTERS = 4;

    private final Text text;
    private final Line now;
    private final Past past;
    private final Line[] kept;
    private final boolean[] holds;
    private final Sightings sightings;
    private long seedNow;

    // Room for questions, made once, so that no call makes objects.
    private final Line trial;
    private final Flight flight;
    private final Way way;
    private final Best best;
    private final Tally tally;

    public KiteYards() {
        text = new Text();
        now = new Line();
        past = new Past();
        kept = newLines(SLOTS);
        holds = new boolean[SLOTS];
        sightings = new Sightings();
        seedNow = 0L;
        trial = new Line();
        flight = new Flight();
        way = new Way();
        best = new Best();
        tally = new Tally();
    }

    // ---- the string

    public int write(int letter) {
        if (letter < 0 || letter > 255) {
            return BAD;
        }
        if (text.length >= MOST_LETTERS) {
            return FULL;
        }
        return text.append(letter);
    }

    public int wipe() {
        int before = text.length;
        text.length = 0;
        return before;
    }

    public int fault() {
        return text.firstFault();
    }

    public int fly() {
        if (text.firstFault() != NONE) {
            return LATE;
        }
        text.tell(now);
        past.forget();
        forgetKept();
        return now.count;
    }

    public int about(int what) {
        switch (what) {
            case 0:
                return now.count;
            case 1:
                return now.low + MOST_LEAN;
            case 2:
                return now.high + MOST_LEAN;
            case 3:
                return now.border;
            case 4:
                return now.fold;
            case 5:
                return now.yardsFrom(0);
            case 6:
                flight.follow(now);
                return flight.folding;
            case 7:
                return past.count;
            case 8:
                return sightings.count;
            case 9:
                return text.length;
            default:
                return BAD;
        }
    }

    public int kite(int kite, int what) {
        if (!now.has(kite)) {
            return UNKNOWN;
        }
        flight.follow(now);
        switch (what) {
            case 0:
                return at(now.yards, kite);
            case 1:
                return at(now.bridles, kite) + MOST_LEAN;
            case 2:
                return at(now.tails, kite);
            case 3:
                return at(flight.heights, kite);
            case 4:
                return at(flight.places, kite) + PLACES_TOLD_MORE;
            case 5:
                return (flight.folding >> kite) & 1;
            default:
                return BAD;
        }
    }

    // ---- acts

    public int letOut(int kite, int d) {
        if (!now.has(kite)) {
            return UNKNOWN;
        }
        if (d == 0 || !within(d, MOST_LET_OUT)) {
            return BAD;
        }
        int then = at(now.yards, kite) + d;
        if (then < 1 || then > MOST_YARDS) {
            return LATE;
        }
        past.remember(now);
        put(now.yards, kite, then);
        return then;
    }

    public int set(int kite, int bridle) {
        if (!now.has(kite)) {
            return UNKNOWN;
        }
        if (!within(bridle, MOST_LEAN)) {
            return BAD;
        }
        int before = at(now.bridles, kite);
        if (before == bridle) {
            return LATE;
        }
        past.remember(now);
        put(now.bridles, kite, bridle);
        return before + MOST_LEAN;
    }

    public int cut(int kite) {
        if (!now.has(kite)) {
            return UNKNOWN;
        }
        past.remember(now);
        now.count = kite;
        return now.count;
    }

    public int turn(int low, int high) {
        if (!within(low, MOST_LEAN) || !within(high, MOST_LEAN)) {
            return BAD;
        }
        if (low == now.low && high == now.high) {
            return LATE;
        }
        int before = toldTogether(now.low, now.high);
        past.remember(now);
        now.low = low;
        now.high = high;
        return before;
    }

    public int undo() {
        if (past.count <= 0) {
            return LATE;
        }
        past.giveBack(now);
        return past.count;
    }

    // ---- what is seen

    public int sees(int place) {
        if (!within(place, FARTHEST_ASKED)) {
            return BAD;
        }
        flight.follow(now);
        return flight.views(place) ? 1 : 0;
    }

    public int cheapest(int place, int what) {
        if (!within(place, FARTHEST_ASKED) || !isFirstOrSecond(what)) {
            return BAD;
        }
        seekYards(place);
        return what == 0 ? best.cost : best.number;
    }

    public int fewest(int place, int what) {
        if (!within(place, FARTHEST_ASKED) || !isFirstOrSecond(what)) {
            return BAD;
        }
        seekBridles(place);
        return what == 0 ? best.cost : best.number;
    }

    public int whereToCut() {
        flight.follow(now);
        for (int kite = now.count - 1; kite >= 1; kite--) {
            int below = (1 << kite) - 1;
            if ((flight.folding & below) == 0) {
                return kite;
            }
        }
        return NONE;
    }

    public int drops(int kite) {
        return now.has(kite) ? now.yardsFrom(kite) : UNKNOWN;
    }

    public int share(int kite, boolean upper) {
        if (!now.has(kite)) {
            return UNKNOWN;
        }
        int all = 1 << now.count;
        int own = 1 << kite;
        int sum = 0;
        for (int came = 0; came < all; came++) {
            if ((came & own) == 0) {
                int earlier = Integer.bitCount(came);
                int orders = orders(earlier) * orders(now.count - 1 - earlier);
                sum += orders * (viewOf(came | own) - viewOf(came));
            }
        }
        return fraction(sum, orders(now.count), upper);
    }

    // ---- tugs

    public int arrives(int n, int word) {
        return isWord(n, word) ? shifted(n, word, now.tugsMore()) : BAD;
    }

    public int sent(int n, int word) {
        return isWord(n, word) ? shifted(n, word, -now.tugsMore()) : BAD;
    }

    public int taken(int n, int word, int other) {
        if (!isWord(n, word) || !isWord(n, other)) {
            return BAD;
        }
        if (now.count == 0) {
            return word == other ? 1 : 0;
        }
        return meetBySlips(n, word, other) ? 1 : 0;
    }

    // ---- winds

    public int seeAt(int kite, int place) {
        if (!now.has(kite)) {
            return UNKNOWN;
        }
        if (!within(place, FARTHEST_SEEN_AT)) {
            return BAD;
        }
        if (sightings.count >= MOST_SEEN) {
            return FULL;
        }
        return sightings.add(kite, place);
    }

    public int unsee() {
        int before = sightings.count;
        sightings.count = 0;
        return before;
    }

    public int winds(int what) {
        if (what < 0 || what > 2) {
            return BAD;
        }
        int lows = seekWinds();
        switch (what) {
            case 0:
                return tally.count;
            case 1:
                return tally.first;
            default:
                // With one LOW in all pairs, that of the first pair is it.
                return Integer.bitCount(lows) == 1 ? tally.first / 10 : NONE;
        }
    }

    public int rests(int kite, int other, int p, int q, int what) {
        if (!now.has(kite) || !now.has(other)) {
            return UNKNOWN;
        }
        boolean wanted = within(p, FARTHEST_WANTED) && within(q, FARTHEST_WANTED);
        if (kite == other || !wanted || !isFirstOrSecond(what)) {
            return BAD;
        }
        seekRests(kite, other, p, q);
        return what == 0 ? tally.count : tally.first;
    }

    public int gusts(int x, int y, boolean upper) {
        if (x < 0 || x > TENTHS || y < 0 || y > TENTHS) {
            return BAD;
        }
        int sum = calmIn(0, 0) * (TENTHS - x) * (TENTHS - y);
        sum += calmIn(0, 1) * (TENTHS - x) * y;
        sum += calmIn(1, 0) * x * (TENTHS - y);
        sum += calmIn(1, 1) * x * y;
        return fraction(sum, TENTHS * TENTHS, upper);
    }

    public long seed(long v) {
        long before = seedNow;
        seedNow = v;
        return before;
    }

    public int afternoons(int m) {
        if (m < 1 || m > MOST_AFTERNOONS) {
            return BAD;
        }
        int folded = 0;
        trial.take(now);
        for (int time = 0; time < m; time++) {
            seedNow = seedNow * SEED_TIMES + SEED_MORE;
            int drawn = (int) ((seedNow >>> SEED_LOWER_BITS) % (LEANS * LEANS));
            trial.low = drawn / LEANS - MOST_LEAN;
            trial.high = drawn % LEANS - MOST_LEAN;
            flight.follow(trial);
            folded += Integer.bitCount(flight.folding);
        }
        return folded;
    }

    // ---- slots

    public int keep(int slot) {
        Line line = slotLine(slot);
        if (line == null || slot < 0 || slot >= holds.length) {
            return UNKNOWN;
        }
        line.take(now);
        holds[slot] = true;
        return now.count;
    }

    public int again(int slot) {
        Line line = slotLine(slot);
        if (line == null || slot < 0 || slot >= holds.length) {
            return UNKNOWN;
        }
        if (!holds[slot]) {
            return LATE;
        }
        now.take(line);
        past.forget();
        return now.count;
    }

    // ---- what the questions are made of

    private Line slotLine(int slot) {
        return slot >= 0 && slot < kept.length ? kept[slot] : null;
    }

    private void forgetKept() {
        for (int slot = 0; slot < holds.length; slot++) {
            holds[slot] = false;
        }
    }

    /** Goes through the ways as numbers, so the first of the cheapest is the least one. */
    private void seekYards(int place) {
        best.clear();
        trial.take(now);
        way.start(now.count, MOST_MORE);
        int ways = way.most();
        for (int turn = 0; turn < ways; turn++) {
            int cost = way.sum();
            if (best.wants(cost) && letOutByWay() && trialViews(place)) {
                best.keepThis(cost, way.number());
            }
            way.step();
        }
    }

    /** Whether no kite has too many yards then. */
    private boolean letOutByWay() {
        for (int kite = 0; kite < now.count; kite++) {
            int then = at(now.yards, kite) + at(way.figures, kite);
            if (then > MOST_YARDS) {
                return false;
            }
            put(trial.yards, kite, then);
        }
        return true;
    }

    private void seekBridles(int place) {
        best.clear();
        trial.take(now);
        way.start(now.count, LEANS - 1);
        int ways = way.most();
        for (int turn = 0; turn < ways; turn++) {
            int cost = setByWay();
            if (best.wants(cost) && trialViews(place)) {
                best.keepThis(cost, way.number());
            }
            way.step();
        }
    }

    /** Sets the trial's bridles and answers how many are other than they are now. */
    private int setByWay() {
        int changes = 0;
        for (int kite = 0; kite < now.count; kite++) {
            int bridle = at(way.figures, kite) - MOST_LEAN;
            if (bridle != at(now.bridles, kite)) {
                changes++;
            }
            put(trial.bridles, kite, bridle);
        }
        return changes;
    }

    private boolean trialViews(int place) {
        flight.follow(trial);
        return flight.views(place);
    }

    /** How many of the shared places are seen if just those kites fly, in their order. */
    private int viewOf(int kites) {
        trial.takeSome(now, kites);
        flight.follow(trial);
        return flight.viewsWithin(FARTHEST_SHARED);
    }

    /** Fills the tally with pairs of winds; answers which LOWs are among them, as bits. */
    private int seekWinds() {
        int lows = 0;
        tally.clear();
        trial.take(now);
        for (int low = -MOST_LEAN; low <= MOST_LEAN; low++) {
            for (int high = -MOST_LEAN; high <= MOST_LEAN; high++) {
                trial.low = low;
                trial.high = high;
                flight.follow(trial);
                if (sightings.agreeWith(flight)) {
                    tally.add(toldTogether(low, high));
                    lows |= 1 << (low + MOST_LEAN);
                }
            }
        }
        return lows;
    }

    private void seekRests(int kite, int other, int p, int q) {
        tally.clear();
        trial.take(now);
        for (int first = -MOST_LEAN; first <= MOST_LEAN; first++) {
            for (int second = -MOST_LEAN; second <= MOST_LEAN; second++) {
                put(trial.bridles, kite, first);
                put(trial.bridles, other, second);
                if (isNearest(kite, p) && isNearest(other, q)) {
                    tally.add(toldTogether(first, second));
                }
            }
        }
    }

    /** Whether no other bridle of this kite alone brings it nearer; the trial stays as it is. */
    private boolean isNearest(int kite, int place) {
        int own = at(trial.bridles, kite);
        int distance = distanceBy(kite, own, place);
        boolean nearest = true;
        for (int bridle = -MOST_LEAN; bridle <= MOST_LEAN; bridle++) {
            if (distanceBy(kite, bridle, place) < distance) {
                nearest = false;
            }
        }
        put(trial.bridles, kite, own);
        return nearest;
    }

    private int distanceBy(int kite, int bridle, int place) {
        put(trial.bridles, kite, bridle);
        flight.follow(trial);
        return Math.abs(at(flight.places, kite) - place);
    }

    /** 1 if no kite folds in winds that are so much more, else 0. */
    private int calmIn(int lowMore, int highMore) {
        trial.take(now);
        trial.low = now.low + lowMore;
        trial.high = now.high + highMore;
        flight.follow(trial);
        return flight.folding == 0 ? 1 : 0;
    }

    // ---- numbers and rows

    private static boolean within(int number, int farthest) {
        return number >= -farthest && number <= farthest;
    }

    private static boolean isFirstOrSecond(int what) {
        return what == 0 || what == 1;
    }

    /** Two winds, or two bridles, as two figures. */
    private static int toldTogether(int first, int second) {
        return 10 * (first + MOST_LEAN) + second + MOST_LEAN;
    }

    private static boolean isWord(int n, int word) {
        if (n < 1 || n > MOST_FIGURES || word < 0) {
            return false;
        }
        int rest = word;
        for (int figure = 0; figure < n; figure++) {
            if (rest % 10 >= TUGS) {
                return false;
            }
            rest /= 10;
        }
        return rest == 0;
    }

    private static int shifted(int n, int word, int more) {
        int rest = word;
        int told = 0;
        int power = 1;
        for (int figure = 0; figure < n; figure++) {
            told += power * Math.floorMod(rest % 10 + more, TUGS);
            rest /= 10;
            power *= 10;
        }
        return told;
    }

    /**
     * Every kite adds the same to all tugs, so a slip anywhere moves one tug that
     * arrives by one. Two words can meet with both slips on one tug, which covers
     * any difference there, or with one slip each on two tugs that are next to
     * each other (by 4).
     */
    private static boolean meetBySlips(int n, int word, int other) {
        int apart = 0;
        int farApart = 0;
        int rest = word;
        int otherRest = other;
        for (int figure = 0; figure < n; figure++) {
            int difference = Math.floorMod(rest % 10 - otherRest % 10, TUGS);
            if (difference != 0) {
                apart++;
            }
            if (difference == 2) {
                farApart++;
            }
            rest /= 10;
            otherRest /= 10;
        }
        return apart <= 1 || (apart == 2 && farApart == 0);
    }

    /** How many orders so many kites can come in. */
    private static int orders(int kites) {
        int product = 1;
        for (int factor = 2; factor <= kites && factor <= MOST_KITES; factor++) {
            product *= factor;
        }
        return product;
    }

    private static int fraction(int above, int below, boolean upper) {
        int common = commonDivisor(Math.abs(above), below);
        if (common <= 0) {
            return 0;
        }
        return upper ? above / common : below / common;
    }

    private static int commonDivisor(int one, int another) {
        int greater = one;
        int less = another;
        // Some fifty steps are enough for any two ints.
        for (int step = 0; step < 100 && less != 0; step++) {
            int left = greater % less;
            greater = less;
            less = left;
        }
        return greater;
    }

    private static int at(int[] row, int place) {
        return row != null && place >= 0 && place < row.length ? row[place] : 0;
    }

    private static void put(int[] row, int place, int value) {
        if (row != null && place >= 0 && place < row.length) {
            row[place] = value;
        }
    }

    private static Line[] newLines(int many) {
        Line[] lines = new Line[Math.max(0, many)];
        for (int place = 0; place < lines.length; place++) {
            lines[place] = new Line();
        }
        return lines;
    }

    /** The bytes of THE TEXT, and what they tell. */
    private static final class Text {
        final int[] letters = new int[MOST_LETTERS];
        int length;

        int append(int letter) {
            put(letters, length, letter);
            length++;
            return length;
        }

        int firstFault() {
            for (int place = 0; place < length; place++) {
                if (!fits(place, at(letters, place))) {
                    return place;
                }
            }
            boolean ended = length >= HEAD_LETTERS && (length - HEAD_LETTERS) % PART_LETTERS == 0;
            return ended ? NONE : length;
        }

        private boolean fits(int place, int letter) {
            switch (place) {
                case 0:
                    return letter == 'K';
                case 1:
                case 2:
                    return letter >= '0' && letter <= '4';
                case 3:
                    return letter >= '0' && letter <= '5';
                case 4:
                    // BORDER is 50 at most, so behind a 5 only 0 can come.
                    return letter >= '0' && letter <= (at(letters, 3) == '5' ? '0' : '9');
                case 5:
                    return letter >= '1' && letter <= '9';
                default:
                    return fitsPart(place - HEAD_LETTERS, letter);
            }
        }

        private boolean fitsPart(int place, int letter) {
            if (place >= MOST_KITES * PART_LETTERS) {
                return false;
            }
            switch (place % PART_LETTERS) {
                case 0:
                    return letter == 'Y';
                case 1:
                    return letter >= '1' && letter <= '9';
                case 2:
                    return letter >= '0' && letter <= '4';
                default:
                    return letter >= '0' && letter <= '3';
            }
        }

        /** Only for a text without a fault. */
        void tell(Line line) {
            line.low = figure(1) - MOST_LEAN;
            line.high = figure(2) - MOST_LEAN;
            line.border = 10 * figure(3) + figure(4);
            line.fold = figure(5);
            line.count = Math.min(MOST_KITES, (length - HEAD_LETTERS) / PART_LETTERS);
            for (int kite = 0; kite < line.count; kite++) {
                int part = HEAD_LETTERS + PART_LETTERS * kite;
                put(line.yards, kite, figure(part + 1));
                put(line.bridles, kite, figure(part + 2) - MOST_LEAN);
                put(line.tails, kite, figure(part + 3));
            }
        }

        private int figure(int place) {
            return at(letters, place) - '0';
        }
    }

    /** Kites from the boy on, and the winds; bridles and winds from -2 on. */
    private static final class Line {
        int count;
        int low;
        int high;
        int border;
        int fold = 1;
        final int[] yards = new int[MOST_KITES];
        final int[] bridles = new int[MOST_KITES];
        final int[] tails = new int[MOST_KITES];

        boolean has(int kite) {
            return kite >= 0 && kite < count;
        }

        int yardsFrom(int first) {
            int sum = 0;
            for (int kite = Math.max(0, first); kite < count; kite++) {
                sum += at(yards, kite);
            }
            return sum;
        }

        /** By how much all kites together make a tug more. */
        int tugsMore() {
            int more = 0;
            for (int kite = 0; kite < count; kite++) {
                more += at(bridles, kite) + MOST_LEAN;
            }
            return more;
        }

        void take(Line other) {
            takeSome(other, (1 << MOST_KITES) - 1);
        }

        /** Takes the winds and just those kites, in their order. */
        void takeSome(Line other, int kites) {
            low = other.low;
            high = other.high;
            border = other.border;
            fold = other.fold;
            int taken = 0;
            for (int kite = 0; kite < other.count; kite++) {
                if (((kites >> kite) & 1) == 1) {
                    put(yards, taken, at(other.yards, kite));
                    put(bridles, taken, at(other.bridles, kite));
                    put(tails, taken, at(other.tails, kite));
                    taken++;
                }
            }
            count = taken;
        }
    }

    /** How a line flies: how high each kite is, where, and which fold. */
    private static final class Flight {
        final int[] heights = new int[MOST_KITES];
        final int[] places = new int[MOST_KITES];
        int count;
        int folding;

        void follow(Line line) {
            int height = 0;
            int place = 0;
            int leanBelow = 0;
            count = line.count;
            folding = 0;
            for (int kite = 0; kite < count; kite++) {
                height += Math.max(0, at(line.yards, kite) - at(line.tails, kite));
                int wind = height < line.border ? line.low : line.high;
                int lean = wind + at(line.bridles, kite);
                place += lean;
                if (Math.abs(lean - leanBelow) > line.fold) {
                    folding |= 1 << kite;
                }
                put(heights, kite, height);
                put(places, kite, place);
                leanBelow = lean;
            }
        }

        /** Whether the last kite sees a place. */
        boolean views(int place) {
            if (count <= 0 || folding != 0) {
                return false;
            }
            return Math.abs(place - at(places, count - 1)) <= sight();
        }

        /** How many of the places that are no farther from the dyke the last kite sees. */
        int viewsWithin(int farthest) {
            if (count <= 0 || folding != 0) {
                return 0;
            }
            int from = Math.max(-farthest, at(places, count - 1) - sight());
            int to = Math.min(farthest, at(places, count - 1) + sight());
            return Math.max(0, to - from + 1);
        }

        private int sight() {
            return at(heights, count - 1) / 4;
        }
    }

    /** The line as it was ahead of each of the last acts. */
    private static final class Past {
        final Line[] rows = newLines(MOST_ACTS);
        int count;

        void remember(Line line) {
            if (count >= rows.length) {
                forgetFirst();
            }
            if (count >= 0 && count < rows.length && rows[count] != null) {
                rows[count].take(line);
                count++;
            }
        }

        /** The first row's line goes to the end, to be used again. */
        private void forgetFirst() {
            if (rows.length == 0) {
                return;
            }
            Line first = rows[0];
            for (int row = 1; row < rows.length; row++) {
                rows[row - 1] = rows[row];
            }
            rows[rows.length - 1] = first;
            count = rows.length - 1;
        }

        void giveBack(Line line) {
            int last = count - 1;
            if (last >= 0 && last < rows.length && rows[last] != null) {
                line.take(rows[last]);
                count = last;
            }
        }

        void forget() {
            count = 0;
        }
    }

    /** Where kites were seen. */
    private static final class Sightings {
        final int[] kites = new int[MOST_SEEN];
        final int[] places = new int[MOST_SEEN];
        int count;

        int add(int kite, int place) {
            put(kites, count, kite);
            put(places, count, place);
            count++;
            return count;
        }

        /** What was seen of kites that do not fly does not count. */
        boolean agreeWith(Flight flight) {
            for (int row = 0; row < count; row++) {
                int kite = at(kites, row);
                if (kite < flight.count && at(flight.places, kite) != at(places, row)) {
                    return false;
                }
            }
            return true;
        }
    }

    /** Figures by kites, that go through all numbers from the least on. */
    private static final class Way {
        final int[] figures = new int[MOST_KITES];
        int count;
        int highest;

        void start(int kites, int highestFigure) {
            count = kites;
            highest = highestFigure;
            for (int kite = 0; kite < figures.length; kite++) {
                figures[kite] = 0;
            }
        }

        /** How many ways there are. */
        int most() {
            int ways = 1;
            for (int kite = 0; kite < count; kite++) {
                ways *= highest + 1;
            }
            return ways;
        }

        void step() {
            for (int kite = count - 1; kite >= 0; kite--) {
                if (at(figures, kite) < highest) {
                    put(figures, kite, at(figures, kite) + 1);
                    return;
                }
                put(figures, kite, 0);
            }
        }

        int sum() {
            int all = 0;
            for (int kite = 0; kite < count; kite++) {
                all += at(figures, kite);
            }
            return all;
        }

        int number() {
            int told = 0;
            for (int kite = 0; kite < count; kite++) {
                told = 10 * told + at(figures, kite);
            }
            return told;
        }
    }

    /** The first way of the least cost. */
    private static final class Best {
        int cost = NONE;
        int number = NONE;

        void clear() {
            cost = NONE;
            number = NONE;
        }

        boolean wants(int offered) {
            return cost == NONE || offered < cost;
        }

        void keepThis(int newCost, int newNumber) {
            cost = newCost;
            number = newNumber;
        }
    }

    /** How many pairs there are, and the first one. */
    private static final class Tally {
        int count;
        int first = NONE;

        void clear() {
            count = 0;
            first = NONE;
        }

        void add(int pair) {
            if (count == 0) {
                first = pair;
            }
            count++;
        }
    }
}
