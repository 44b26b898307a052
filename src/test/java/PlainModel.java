import java.math.BigInteger;
import java.util.ArrayDeque;
import java.util.ArrayList;
import java.util.Arrays;
import java.util.Collections;
import java.util.Deque;
import java.util.HashSet;
import java.util.List;
import java.util.Set;
import java.util.regex.Matcher;
import java.util.regex.Pattern;

/**
 * The document's words taken one by one, by search and listing where the program
 * counts: so that a slip of thought in the one is not in the other as well.
 */
final class PlainModel {
    private static final int UNKNOWN = -1, BAD = -2, LATE = -3, FULL = -4, NONE = -9;
    private static final Pattern WHOLE =
        Pattern.compile("K[0-4][0-4](?:[0-4][0-9]|50)[1-9](?:Y[1-9][0-4][0-3]){0,5}", Pattern.DOTALL);

    /** A kite that is never changed: another one takes its place. */
    record Kite(int yards, int bridle, int tail) { }

    record State(List<Kite> kites, int low, int high) { }

    record Seen(int kite, int place) { }

    record Flown(List<Integer> heights, List<Integer> places, Set<Integer> folds) { }

    private String text = "";
    private State now = new State(List.of(), 0, 0);
    private int border = 0;
    private int fold = 1;
    private final Deque<State> acts = new ArrayDeque<>();
    private final State[] kept = new State[2];
    private final List<Seen> seen = new ArrayList<>();
    private BigInteger seed = BigInteger.ZERO;

    private int count() {
        return now.kites().size();
    }

    private boolean noKite(int kite) {
        return kite < 0 || kite >= count();
    }

    private void act(State next) {
        acts.addLast(now);
        if (acts.size() > 14) {
            acts.removeFirst();
        }
        now = next;
    }

    private State with(int kite, Kite other) {
        List<Kite> kites = new ArrayList<>(now.kites());
        kites.set(kite, other);
        return new State(kites, now.low(), now.high());
    }

    private Flown flown(List<Kite> kites, int low, int high) {
        List<Integer> heights = new ArrayList<>();
        List<Integer> places = new ArrayList<>();
        List<Integer> leans = new ArrayList<>(List.of(0));
        Set<Integer> folds = new HashSet<>();
        for (Kite kite : kites) {
            int i = heights.size();
            int below = i == 0 ? 0 : heights.get(i - 1);
            int rises = kite.tail() > kite.yards() ? 0 : kite.yards() - kite.tail();
            heights.add(below + rises);
            leans.add((heights.get(i) < border ? low : high) + kite.bridle());
            places.add((i == 0 ? 0 : places.get(i - 1)) + leans.get(i + 1));
            int apart = leans.get(i + 1) - leans.get(i);
            if (apart > fold || -apart > fold) {
                folds.add(i);
            }
        }
        return new Flown(heights, places, folds);
    }

    private Flown flown() {
        return flown(now.kites(), now.low(), now.high());
    }

    private static Set<Integer> view(Flown flown) {
        Set<Integer> view = new HashSet<>();
        int count = flown.heights().size();
        if (count > 0 && flown.folds().isEmpty()) {
            int place = flown.places().get(count - 1);
            int quarter = flown.heights().get(count - 1) / 4;
            for (int seen = place - quarter; seen <= place + quarter; seen++) {
                view.add(seen);
            }
        }
        return view;
    }

    private boolean viewHas(List<Kite> kites, int place) {
        return view(flown(kites, now.low(), now.high())).contains(place);
    }

    int write(int letter) {
        if (letter < 0 || letter > 255) {
            return BAD;
        }
        if (text.length() == 32) {
            return FULL;
        }
        text += (char) letter;
        return text.length();
    }

    int wipe() {
        int length = text.length();
        text = "";
        return length;
    }

    int fault() {
        for (int length = 1; length <= text.length(); length++) {
            Matcher matcher = WHOLE.matcher(text.substring(0, length));
            if (!matcher.matches() && !matcher.hitEnd()) {
                return length - 1;
            }
        }
        return WHOLE.matcher(text).matches() ? NONE : text.length();
    }

    int fly() {
        if (fault() != NONE) {
            return LATE;
        }
        List<Kite> kites = new ArrayList<>();
        String parts = text.substring(6);
        while (!parts.isEmpty()) {
            kites.add(new Kite(parts.charAt(1) - '0', parts.charAt(2) - '2', parts.charAt(3) - '0'));
            parts = parts.substring(4);
        }
        now = new State(kites, text.charAt(1) - '2', text.charAt(2) - '2');
        border = Integer.parseInt(text.substring(3, 5));
        fold = Integer.parseInt(text.substring(5, 6));
        acts.clear();
        Arrays.fill(kept, null);
        return count();
    }

    int about(int what) {
        return switch (what) {
            case 0 -> count();
            case 1 -> now.low() + 2;
            case 2 -> now.high() + 2;
            case 3 -> border;
            case 4 -> fold;
            case 5 -> now.kites().stream().mapToInt(Kite::yards).sum();
            case 6 -> flown().folds().stream().mapToInt(i -> 1 << i).sum();
            case 7 -> acts.size();
            case 8 -> seen.size();
            case 9 -> text.length();
            default -> BAD;
        };
    }

    int kite(int kite, int what) {
        if (noKite(kite)) {
            return UNKNOWN;
        }
        Kite it = now.kites().get(kite);
        return switch (what) {
            case 0 -> it.yards();
            case 1 -> it.bridle() + 2;
            case 2 -> it.tail();
            case 3 -> flown().heights().get(kite);
            case 4 -> flown().places().get(kite) + 100;
            case 5 -> flown().folds().contains(kite) ? 1 : 0;
            default -> BAD;
        };
    }

    int letOut(int kite, int d) {
        if (noKite(kite)) {
            return UNKNOWN;
        }
        if (d < -9 || d > 9 || d == 0) {
            return BAD;
        }
        Kite it = now.kites().get(kite);
        int then = it.yards() + d;
        if (then < 1 || then > 30) {
            return LATE;
        }
        act(with(kite, new Kite(then, it.bridle(), it.tail())));
        return then;
    }

    int set(int kite, int bridle) {
        if (noKite(kite)) {
            return UNKNOWN;
        }
        if (bridle < -2 || bridle > 2) {
            return BAD;
        }
        Kite it = now.kites().get(kite);
        if (it.bridle() == bridle) {
            return LATE;
        }
        act(with(kite, new Kite(it.yards(), bridle, it.tail())));
        return it.bridle() + 2;
    }

    int cut(int kite) {
        if (noKite(kite)) {
            return UNKNOWN;
        }
        act(new State(now.kites().subList(0, kite), now.low(), now.high()));
        return count();
    }

    int turn(int low, int high) {
        if (low < -2 || low > 2 || high < -2 || high > 2) {
            return BAD;
        }
        if (low == now.low() && high == now.high()) {
            return LATE;
        }
        int before = 10 * (now.low() + 2) + now.high() + 2;
        act(new State(now.kites(), low, high));
        return before;
    }

    int undo() {
        if (acts.isEmpty()) {
            return LATE;
        }
        now = acts.removeLast();
        return acts.size();
    }

    int sees(int place) {
        return place < -100 || place > 100 ? BAD : viewHas(now.kites(), place) ? 1 : 0;
    }

    /** Each way as cost, then number. */
    private void ways(List<Kite> chosen, int cost, long number, boolean yards, int place, List<long[]> found) {
        int kite = chosen.size();
        if (kite == count()) {
            if (viewHas(chosen, place)) {
                found.add(new long[] {cost, number});
            }
            return;
        }
        Kite it = now.kites().get(kite);
        for (int figure = yards ? 3 : 4; figure >= 0; figure--) {
            List<Kite> next = new ArrayList<>(chosen);
            int dearer = cost;
            if (yards) {
                if (it.yards() + figure > 30) {
                    continue;
                }
                next.add(new Kite(it.yards() + figure, it.bridle(), it.tail()));
                dearer += figure;
            } else {
                next.add(new Kite(it.yards(), figure - 2, it.tail()));
                dearer += figure - 2 == it.bridle() ? 0 : 1;
            }
            ways(next, dearer, number * 10 + figure, yards, place, found);
        }
    }

    private int bestWay(int place, int what, boolean yards) {
        if (place < -100 || place > 100 || what < 0 || what > 1) {
            return BAD;
        }
        List<long[]> found = new ArrayList<>();
        ways(List.of(), 0, 0, yards, place, found);
        found.sort((a, b) -> a[0] != b[0] ? Long.compare(a[0], b[0]) : Long.compare(a[1], b[1]));
        return found.isEmpty() ? NONE : (int) found.get(0)[what];
    }

    int cheapest(int place, int what) {
        return bestWay(place, what, true);
    }

    int fewest(int place, int what) {
        return bestWay(place, what, false);
    }

    int whereToCut() {
        int greatest = NONE;
        for (int kite = 0; kite < count(); kite++) {
            List<Kite> left = now.kites().subList(0, kite);
            if (!left.isEmpty() && flown(left, now.low(), now.high()).folds().isEmpty()) {
                greatest = kite;
            }
        }
        return greatest;
    }

    int drops(int kite) {
        if (noKite(kite)) {
            return UNKNOWN;
        }
        int all = about(5);
        State before = now;
        now = new State(now.kites().subList(0, kite), now.low(), now.high());
        int left = about(5);
        now = before;
        return all - left;
    }

    private static int told(BigInteger above, BigInteger below, boolean upper) {
        BigInteger common = above.gcd(below);
        return (upper ? above : below).divide(common).intValueExact();
    }

    private int sharedView(List<Integer> came) {
        List<Integer> sorted = new ArrayList<>(came);
        Collections.sort(sorted);
        List<Kite> kites = new ArrayList<>();
        for (int kite : sorted) {
            kites.add(now.kites().get(kite));
        }
        Set<Integer> view = view(flown(kites, now.low(), now.high()));
        view.removeIf(place -> place < -9 || place > 9);
        return view.size();
    }

    private long[] gains(List<Integer> came, int kite) {
        long[] sum = new long[2];
        if (came.size() == count()) {
            int at = came.indexOf(kite);
            sum[0] = sharedView(came.subList(0, at + 1)) - sharedView(came.subList(0, at));
            sum[1] = 1;
            return sum;
        }
        for (int next = 0; next < count(); next++) {
            if (!came.contains(next)) {
                List<Integer> more = new ArrayList<>(came);
                more.add(next);
                long[] part = gains(more, kite);
                sum[0] += part[0];
                sum[1] += part[1];
            }
        }
        return sum;
    }

    int share(int kite, boolean upper) {
        if (noKite(kite)) {
            return UNKNOWN;
        }
        long[] sum = gains(List.of(), kite);
        return told(BigInteger.valueOf(sum[0]), BigInteger.valueOf(sum[1]), upper);
    }

    private static int[] word(int n, int word) {
        if (n < 1 || n > 6 || word < 0) {
            return null;
        }
        String figures = Integer.toString(word);
        if (figures.length() > n || !figures.matches("[0-3]*")) {
            return null;
        }
        figures = "0".repeat(n - figures.length()) + figures;
        return figures.chars().map(c -> c - '0').toArray();
    }

    private static int figures(int[] word) {
        int number = 0;
        for (int figure : word) {
            number = 10 * number + figure;
        }
        return number;
    }

    /** From the last kite down; the kite that slips (or none), when, and by how much. */
    private int[] felt(int[] word, int slipKite, int slipTime, int slip) {
        int[] tugs = word.clone();
        for (int kite = count() - 1; kite >= 0; kite--) {
            for (int time = 0; time < tugs.length; time++) {
                tugs[time] = (tugs[time] + now.kites().get(kite).bridle() + 2) % 4;
                if (kite == slipKite && time == slipTime) {
                    tugs[time] = (tugs[time] + slip + 4) % 4;
                }
            }
        }
        return tugs;
    }

    int arrives(int n, int word) {
        int[] tugs = word(n, word);
        return tugs == null ? BAD : figures(felt(tugs, -1, -1, 0));
    }

    int sent(int n, int word) {
        if (word(n, word) == null) {
            return BAD;
        }
        int[] tugs = new int[n];
        for (int code = 0; code < 1 << (2 * n); code++) {
            for (int time = 0; time < n; time++) {
                tugs[time] = (code >> (2 * time)) & 3;
            }
            if (figures(felt(tugs, -1, -1, 0)) == word) {
                return figures(tugs);
            }
        }
        throw new IllegalStateException("nothing arrives as " + word);
    }

    private Set<Integer> canArrive(int[] tugs) {
        Set<Integer> all = new HashSet<>();
        all.add(figures(felt(tugs, -1, -1, 0)));
        for (int kite = 0; kite < count(); kite++) {
            for (int time = 0; time < tugs.length; time++) {
                all.add(figures(felt(tugs, kite, time, 1)));
                all.add(figures(felt(tugs, kite, time, -1)));
            }
        }
        return all;
    }

    int taken(int n, int word, int other) {
        int[] one = word(n, word);
        int[] two = word(n, other);
        if (one == null || two == null) {
            return BAD;
        }
        return Collections.disjoint(canArrive(one), canArrive(two)) ? 0 : 1;
    }

    int seeAt(int kite, int place) {
        if (noKite(kite)) {
            return UNKNOWN;
        }
        if (place < -30 || place > 30) {
            return BAD;
        }
        if (seen.size() == 6) {
            return FULL;
        }
        seen.add(new Seen(kite, place));
        return seen.size();
    }

    int unsee() {
        int count = seen.size();
        seen.clear();
        return count;
    }

    int winds(int what) {
        if (what < 0 || what > 2) {
            return BAD;
        }
        List<Integer> pairs = new ArrayList<>();
        for (int pair = 0; pair < 25; pair++) {
            Flown flown = flown(now.kites(), pair / 5 - 2, pair % 5 - 2);
            boolean agrees = seen.stream().allMatch(s -> noKite(s.kite()) || flown.places().get(s.kite()) == s.place());
            if (agrees) {
                pairs.add(10 * (pair / 5) + pair % 5);
            }
        }
        if (what == 0) {
            return pairs.size();
        }
        if (pairs.isEmpty()) {
            return NONE;
        }
        int first = pairs.get(0);
        if (what == 1) {
            return first;
        }
        return pairs.stream().allMatch(pair -> pair / 10 == first / 10) ? first / 10 : NONE;
    }

    private int distance(int kite, int other, int first, int second, int of, int place) {
        List<Kite> kites = new ArrayList<>(now.kites());
        kites.set(kite, new Kite(kites.get(kite).yards(), first, kites.get(kite).tail()));
        kites.set(other, new Kite(kites.get(other).yards(), second, kites.get(other).tail()));
        return Math.abs(flown(kites, now.low(), now.high()).places().get(of) - place);
    }

    int rests(int kite, int other, int p, int q, int what) {
        if (noKite(kite) || noKite(other)) {
            return UNKNOWN;
        }
        if (kite == other || p < -20 || p > 20 || q < -20 || q > 20 || what < 0 || what > 1) {
            return BAD;
        }
        List<Integer> pairs = new ArrayList<>();
        for (int first = -2; first <= 2; first++) {
            for (int second = -2; second <= 2; second++) {
                boolean rest = true;
                for (int another = -2; another <= 2; another++) {
                    rest &= distance(kite, other, another, second, kite, p) >= distance(kite, other, first, second, kite, p);
                    rest &= distance(kite, other, first, another, other, q) >= distance(kite, other, first, second, other, q);
                }
                if (rest) {
                    pairs.add(10 * (first + 2) + second + 2);
                }
            }
        }
        return what == 0 ? pairs.size() : pairs.isEmpty() ? NONE : pairs.get(0);
    }

    int gusts(int x, int y, boolean upper) {
        if (x < 0 || x > 10 || y < 0 || y > 10) {
            return BAD;
        }
        // A hundred cases as likely: a gust comes low in x of ten, high in y of ten.
        int calm = 0;
        for (int chance = 0; chance < 100; chance++) {
            int low = now.low() + (chance / 10 < x ? 1 : 0);
            int high = now.high() + (chance % 10 < y ? 1 : 0);
            calm += flown(now.kites(), low, high).folds().isEmpty() ? 1 : 0;
        }
        return told(BigInteger.valueOf(calm), BigInteger.valueOf(100), upper);
    }

    private static final BigInteger ROUND = BigInteger.ONE.shiftLeft(64);

    long seed(long v) {
        long before = seed.longValue();
        seed = BigInteger.valueOf(v).mod(ROUND);
        return before;
    }

    int afternoons(int m) {
        if (m < 1 || m > 30) {
            return BAD;
        }
        int folds = 0;
        for (int time = 0; time < m; time++) {
            seed = seed.multiply(new BigInteger("6364136223846793005")).add(new BigInteger("1442695040888963407")).mod(ROUND);
            int left = seed.shiftRight(33).mod(BigInteger.valueOf(25)).intValue();
            folds += flown(now.kites(), left / 5 - 2, left % 5 - 2).folds().size();
        }
        return folds;
    }

    int keep(int slot) {
        if (slot != 0 && slot != 1) {
            return UNKNOWN;
        }
        kept[slot] = now;
        return count();
    }

    int again(int slot) {
        if (slot != 0 && slot != 1) {
            return UNKNOWN;
        }
        if (kept[slot] == null) {
            return LATE;
        }
        now = kept[slot];
        acts.clear();
        return count();
    }
}
