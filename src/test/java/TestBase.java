/** What the tests share: what was as due and what was not, and objects to ask. */
abstract class TestBase {
    static final int UNKNOWN = -1, BAD = -2, LATE = -3, FULL = -4, NONE = -9;

    /** LOW 0, HIGH 1, BORDER 10, FOLD 2; heights 9 16 19, leans 0 2 1, places 0 2 3; sees -1 .. 7. */
    static final String THREE = "K23102Y920Y831Y421";
    static final String FIVE = "K22009Y920Y720Y520Y320Y120";
    static final String NO_KITES = "K22001";

    private static final int MOST_TOLD = 40;

    private static int passed = 0;
    private static int failed = 0;
    private static String heading = "";

    /** The promise, or the sentence of the document, that the next checks are about. */
    static void heading(String words) {
        heading = words;
    }

    static void due(String call, long got, long want) {
        if (got == want) {
            passed++;
        } else if (failed++ < MOST_TOLD) {
            System.out.println(heading + ": " + call + " answered " + got + ", due is " + want);
        }
    }

    static void holds(String what, boolean holds) {
        if (holds) {
            passed++;
        } else if (failed++ < MOST_TOLD) {
            System.out.println(heading + ": it does not hold: " + what);
        }
    }

    static void end() {
        System.out.println(passed + " passed, " + failed + " failed");
        if (failed != 0) {
            System.exit(1);
        }
    }

    static void writeAll(KiteYards x, String letters) {
        x.wipe();
        for (int i = 0; i < letters.length(); i++) {
            x.write(letters.charAt(i));
        }
    }

    static KiteYards told(String letters) {
        KiteYards x = new KiteYards();
        writeAll(x, letters);
        return x;
    }

    static KiteYards flown(String letters) {
        KiteYards x = told(letters);
        int kites = (letters.length() - 6) / 4;
        int answered = x.fly();
        if (answered != kites) {
            due("fly() of " + letters, answered, kites);
        }
        return x;
    }

    /** LETs OUT or winds in as often as it needs, until the KITE has so many YARDS. */
    static void haveYards(KiteYards x, int kite, int yards) {
        for (int times = 0; times < 9 && x.kite(kite, 0) != yards; times++) {
            x.letOut(kite, Math.max(-9, Math.min(9, yards - x.kite(kite, 0))));
        }
        due("YARDS of KITE " + kite + " made ready", x.kite(kite, 0), yards);
    }

    /** All that can be asked without changing anything, in one row. */
    static String picture(KiteYards x) {
        StringBuilder row = new StringBuilder();
        for (int what = 0; what < 10; what++) {
            row.append(x.about(what)).append(' ');
        }
        for (int kite = 0; kite < 5; kite++) {
            for (int what = 0; what < 6; what++) {
                row.append(x.kite(kite, what)).append(' ');
            }
        }
        for (int what = 0; what < 3; what++) {
            row.append(x.winds(what)).append(' ');
        }
        return row.append(x.fault()).toString();
    }

    static void sameAs(String call, String before, KiteYards x) {
        holds(call + " changes nothing", before.equals(picture(x)));
    }

    /** Three kites with three acts, both slots, two places seen, a seed, and another string told. */
    static KiteYards rich() {
        KiteYards x = flown(THREE);
        x.letOut(0, 1);
        x.keep(0);
        x.set(1, -1);
        x.keep(1);
        x.turn(1, 0);
        x.seeAt(0, 1);
        x.seeAt(1, 0);
        x.seed(77L);
        writeAll(x, FIVE);
        return x;
    }

    /** All that an object holds: it is used up by this. */
    static String everything(KiteYards x) {
        StringBuilder row = new StringBuilder(picture(x));
        for (int left = x.undo(); left >= 0; left = x.undo()) {
            row.append(" undo ").append(left).append(": ").append(picture(x));
        }
        for (int slot = 0; slot < 2; slot++) {
            row.append(" again ").append(x.again(slot)).append(": ").append(picture(x));
        }
        row.append(" fly ").append(x.fly()).append(": ").append(picture(x));
        return row.append(" seed ").append(x.seed(0L)).toString();
    }
}
