/** Long runs of drawn calls, each answered by the program and by PlainModel alike. */
public final class ModelTest extends TestBase {
    private static final int RUNS = 600;
    private static final int CALLS = 512;

    /** What telling a string and the last look at all can need. */
    private static final int CALLS_LEFT = 110;

    private static long drawn = 20261119L;
    private static int calls = 0;

    private static int below(int bound) {
        drawn = drawn * 2862933555777941757L + 3037000493L;
        return (int) ((drawn >>> 33) % bound);
    }

    private static int between(int least, int most) {
        return least + below(most - least + 1);
    }

    /** Mostly within, at times just outside, seldom far off. */
    private static int around(int least, int most) {
        int kind = below(40);
        if (kind == 0) {
            return least - 1;
        }
        if (kind == 1) {
            return most + 1;
        }
        if (kind == 2) {
            return below(2) == 0 ? Integer.MIN_VALUE : Integer.MAX_VALUE;
        }
        return between(least, most);
    }

    private static void due(int run, String call, long got, long want) {
        calls++;
        due("run " + run + ", " + call, got, want);
    }

    private static String drawString() {
        StringBuilder text = new StringBuilder("K");
        text.append(below(5)).append(below(5));
        int border = below(3) == 0 ? between(0, 50) : between(0, 20);
        text.append(border / 10).append(border % 10).append(below(2) == 0 ? between(1, 3) : between(1, 9));
        int kites = below(6);
        boolean mild = below(2) == 0;
        for (int kite = 0; kite < kites; kite++) {
            text.append('Y').append(between(1, 9)).append(mild ? between(1, 3) : below(5)).append(below(4));
        }
        return text.toString();
    }

    /** A string with one letter changed, at times with more behind it or less. */
    private static String spoil(String text) {
        char[] letters = text.toCharArray();
        String signs = "KY0123456789/:,k";
        letters[below(letters.length)] = signs.charAt(below(signs.length()));
        String spoilt = new String(letters);
        int kind = below(4);
        return kind == 0 ? spoilt.substring(0, below(spoilt.length())) : kind == 1 ? spoilt + "Y9" : spoilt;
    }

    private static void tellAndFly(int run, KiteYards x, PlainModel m) {
        due(run, "wipe()", x.wipe(), m.wipe());
        String text = drawString();
        if (below(4) == 0) {
            text = spoil(text);
        }
        for (int i = 0; i < text.length(); i++) {
            due(run, "write(" + text.charAt(i) + ")", x.write(text.charAt(i)), m.write(text.charAt(i)));
            due(run, "fault() in " + text, x.fault(), m.fault());
        }
        due(run, "fly() of " + text, x.fly(), m.fly());
    }

    private static int drawWord(int n) {
        int word = 0;
        for (int figure = 0; figure < n; figure++) {
            word = 10 * word + (below(60) == 0 ? 4 : below(4));
        }
        return below(30) == 0 ? between(-5, 2000000) : word;
    }

    /** Near to a word, so that what is taken for each other comes often. */
    private static int drawNear(int word, int n) {
        int near = word;
        int changes = below(4);
        for (int change = 0; change < changes; change++) {
            int power = 1;
            for (int figure = below(Math.max(1, n)); figure > 0 && power < 100000; figure--) {
                power *= 10;
            }
            near += power * (below(4) - Math.floorMod(near / power, 10));
        }
        return near;
    }

    private static int drawPlace() {
        return below(3) == 0 ? around(-100, 100) : between(-20, 20);
    }

    private static void change(int run, KiteYards x, PlainModel m) {
        int kite = around(0, 3);
        int a = around(-9, 9);
        int b = around(-2, 2);
        int c = around(-2, 2);
        switch (below(12)) {
            case 0, 1, 2, 3 -> due(run, "letOut(" + kite + ", " + a + ")", x.letOut(kite, a), m.letOut(kite, a));
            case 4, 5, 6 -> due(run, "set(" + kite + ", " + b + ")", x.set(kite, b), m.set(kite, b));
            case 7 -> {
                int from = around(0, 6);
                due(run, "cut(" + from + ")", x.cut(from), m.cut(from));
            }
            case 8, 9 -> due(run, "turn(" + b + ", " + c + ")", x.turn(b, c), m.turn(b, c));
            default -> due(run, "undo()", x.undo(), m.undo());
        }
    }

    private static void askSeen(int run, KiteYards x, PlainModel m) {
        int place = drawPlace();
        int what = around(0, 1);
        int kite = around(0, 4);
        boolean upper = below(2) == 0;
        switch (below(6)) {
            case 0 -> due(run, "sees(" + place + ")", x.sees(place), m.sees(place));
            case 1 -> due(run, "cheapest(" + place + ", " + what + ")", x.cheapest(place, what), m.cheapest(place, what));
            case 2 -> due(run, "fewest(" + place + ", " + what + ")", x.fewest(place, what), m.fewest(place, what));
            case 3 -> due(run, "whereToCut()", x.whereToCut(), m.whereToCut());
            case 4 -> due(run, "drops(" + kite + ")", x.drops(kite), m.drops(kite));
            default -> due(run, "share(" + kite + ", " + upper + ")", x.share(kite, upper), m.share(kite, upper));
        }
    }

    private static void askTugs(int run, KiteYards x, PlainModel m) {
        int n = around(1, 6);
        int length = Math.max(1, Math.min(6, n));
        int word = drawWord(length);
        int other = drawNear(word, length);
        switch (below(4)) {
            case 0 -> due(run, "arrives(" + n + ", " + word + ")", x.arrives(n, word), m.arrives(n, word));
            case 1 -> due(run, "sent(" + n + ", " + word + ")", x.sent(n, word), m.sent(n, word));
            default -> due(run, "taken(" + n + ", " + word + ", " + other + ")", x.taken(n, word, other), m.taken(n, word, other));
        }
    }

    private static void askWinds(int run, KiteYards x, PlainModel m) {
        int kite = around(0, 4);
        int other = around(0, 4);
        int what = around(0, 1);
        int p = around(-20, 20);
        int q = below(2) == 0 ? around(-20, 20) : between(-5, 5);
        boolean upper = below(2) == 0;
        switch (below(11)) {
            case 0, 9, 10 -> {
                // Mostly where it is, or would be in some winds.
                int place = below(8) == 0 ? around(-30, 30) : x.kite(kite, 4) - 100 + between(-1, 1);
                calls++;
                due(run, "seeAt(" + kite + ", " + place + ")", x.seeAt(kite, place), m.seeAt(kite, place));
            }
            case 1 -> {
                if (below(4) == 0) {
                    due(run, "unsee()", x.unsee(), m.unsee());
                }
            }
            case 2, 3 -> {
                int which = around(0, 2);
                due(run, "winds(" + which + ")", x.winds(which), m.winds(which));
            }
            case 4, 5 -> due(run, "rests(" + kite + ", " + other + ", " + p + ", " + q + ", " + what + ")",
                x.rests(kite, other, p, q, what), m.rests(kite, other, p, q, what));
            case 6 -> {
                int a = around(0, 10);
                int b = around(0, 10);
                due(run, "gusts(" + a + ", " + b + ", " + upper + ")", x.gusts(a, b, upper), m.gusts(a, b, upper));
            }
            case 7 -> {
                long v = (long) between(-1000, 1000) * between(1, 2000000000) * between(1, 2000000000);
                due(run, "seed(" + v + ")", x.seed(v), m.seed(v));
            }
            default -> {
                int times = around(1, 30);
                due(run, "afternoons(" + times + ")", x.afternoons(times), m.afternoons(times));
            }
        }
    }

    private static void ask(int run, KiteYards x, PlainModel m) {
        int what = around(0, 9);
        int kite = around(0, 4);
        int which = around(0, 5);
        int slot = around(0, 1);
        switch (below(14)) {
            case 0 -> due(run, "about(" + what + ")", x.about(what), m.about(what));
            case 1, 2 -> due(run, "kite(" + kite + ", " + which + ")", x.kite(kite, which), m.kite(kite, which));
            case 3 -> due(run, "about(6)", x.about(6), m.about(6));
            case 4 -> due(run, "keep(" + slot + ")", x.keep(slot), m.keep(slot));
            case 5 -> due(run, "again(" + slot + ")", x.again(slot), m.again(slot));
            case 6 -> {
                int letter = around(0, 255);
                due(run, "write(" + letter + ")", x.write(letter), m.write(letter));
                due(run, "fault()", x.fault(), m.fault());
            }
            case 7, 8, 9 -> askSeen(run, x, m);
            case 10, 11 -> askTugs(run, x, m);
            default -> askWinds(run, x, m);
        }
    }

    private static void same(int run, KiteYards x, PlainModel m) {
        for (int what = 0; what < 10; what++) {
            due(run, "about(" + what + ")", x.about(what), m.about(what));
        }
        for (int kite = 0; kite < 5; kite++) {
            for (int what = 0; what < 6; what++) {
                due(run, "kite(" + kite + ", " + what + ")", x.kite(kite, what), m.kite(kite, what));
            }
        }
    }

    public static void main(String[] args) {
        heading("drawn runs");
        for (int run = 1; run <= RUNS; run++) {
            KiteYards x = new KiteYards();
            PlainModel m = new PlainModel();
            calls = 0;
            // Some runs are asked ahead of any string.
            int ahead = below(4) == 0 ? 30 : 0;
            boolean told = false;
            int changes = between(1, 8);
            int flights = between(60, 400);
            for (int turn = 0; turn < CALLS && calls < CALLS - CALLS_LEFT; turn++) {
                if (calls >= ahead && (!told || below(flights) == 0)) {
                    tellAndFly(run, x, m);
                    told = true;
                } else if (below(10) < changes) {
                    change(run, x, m);
                } else {
                    ask(run, x, m);
                }
            }
            same(run, x, m);
        }
        end();
    }
}
