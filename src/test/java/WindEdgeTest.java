import java.math.BigInteger;

/** Part 3 of the terms, and promises 22 to 30: a test for each sentence that names an edge. */
public final class WindEdgeTest extends TestBase {
    private static final long TIMES = 6364136223846793005L;
    private static final long MORE = 1442695040888963407L;

    public static void main(String[] args) {
        seenAt30To30();
        seenAt6AtMost();
        seenAtNoneAtFirst();
        seenOfKitesThatThereAreNotAnyMore();
        seenStaysWhenAnotherStringFlies();
        unseeTellsHowMuchThereWas();
        windsFrom2To2Each();
        windsWithAllAndWithNone();
        windsTheFirstOne();
        windsWhichLow();
        windsOfKitesAsTheyAre();
        windsBad();
        restsOfPlaces20To20();
        restsByBridles2To2();
        restsOfTheFirstKiteFirst();
        restsByItsOwnBridleAlone();
        restsUnknown();
        restsBad();
        gusts0And10Tenths();
        gustsEachByItself();
        gustsOf1More();
        gustsOrNone();
        gustsWithoutKites();
        gustsBad();
        seedIsAnyLong();
        seedWraps();
        whatIsLeftBy25();
        afternoons1To30();
        afternoonsAllTogether();
        afternoonsChangeNothingButTheSeed();
        slots0And1();
        keptOfNoKites();
        keptIsGoneWhenAStringFlies();
        keptIsReplaced();
        noActsWhenOneGoesOn();
        lateWhereNoneWereKept();
        end();
    }

    private static void seenAt30To30() {
        heading("SEEN AT: a KITE was at a PLACE (-30 .. 30)");
        KiteYards x = flown(THREE);
        due("seeAt(0, 30)", x.seeAt(0, 30), 1);
        due("seeAt(2, -30)", x.seeAt(2, -30), 2);
        due("seeAt(1, 0)", x.seeAt(1, 0), 3);
        int[] wrong = {31, -31, 100, -100, Integer.MAX_VALUE, Integer.MIN_VALUE};
        for (int place : wrong) {
            due("seeAt(0, " + place + ")", x.seeAt(0, place), BAD);
        }
        int[] noKites = {3, -1, 5, Integer.MAX_VALUE, Integer.MIN_VALUE};
        for (int kite : noKites) {
            due("seeAt(" + kite + ", 0)", x.seeAt(kite, 0), UNKNOWN);
        }
        due("seeAt(0, 0), new", new KiteYards().seeAt(0, 0), UNKNOWN);
        due("about(8)", x.about(8), 3);
    }

    private static void seenAt6AtMost() {
        heading("SEEN AT: .. 6 such at most; FULL: 6");
        KiteYards x = flown(THREE);
        for (int many = 1; many <= 6; many++) {
            // The same again is one more.
            due("seeAt(0, 0)", x.seeAt(0, 0), many);
            due("about(8)", x.about(8), many);
        }
        due("seeAt(0, 0), the 7th", x.seeAt(0, 0), FULL);
        due("seeAt(2, 9), the 7th", x.seeAt(2, 9), FULL);
        due("about(8)", x.about(8), 6);
        due("winds(0), the 7th is not looked at", x.winds(0), 5);
        due("unsee()", x.unsee(), 6);
        due("seeAt(0, 0)", x.seeAt(0, 0), 1);
        // The sixth one counts.
        for (int many = 2; many <= 5; many++) {
            x.seeAt(0, 0);
        }
        due("winds(0) by five", x.winds(0), 5);
        due("seeAt(0, 1), the 6th", x.seeAt(0, 1), 6);
        due("winds(0) by six", x.winds(0), 0);
    }

    private static void seenAtNoneAtFirst() {
        heading("SEEN AT: .. none at first");
        KiteYards x = new KiteYards();
        due("about(8)", x.about(8), 0);
        due("unsee()", x.unsee(), 0);
        due("winds(0)", x.winds(0), 25);
        due("about(8), flown", flown(THREE).about(8), 0);
    }

    private static void seenOfKitesThatThereAreNotAnyMore() {
        heading("of KITES that there are not any more nothing is looked at");
        KiteYards x = flown("K22009Y920Y920Y920");
        x.seeAt(2, 30);
        x.seeAt(1, 2);
        due("winds(0)", x.winds(0), 0);
        x.cut(2);
        due("winds(0), the last one cut", x.winds(0), 5);
        due("winds(1), the last one cut", x.winds(1), 3);
        due("about(8)", x.about(8), 2);
        x.cut(1);
        due("winds(0), two cut", x.winds(0), 25);
        x.cut(0);
        due("winds(0), all cut", x.winds(0), 25);
        due("about(8)", x.about(8), 2);
        x.undo();
        x.undo();
        due("winds(0), two are there again", x.winds(0), 5);
        x.undo();
        due("winds(0), all are there again", x.winds(0), 0);
        due("unsee()", x.unsee(), 2);
    }

    private static void seenStaysWhenAnotherStringFlies() {
        heading("fly: .. what was SEEN AT, THE SEED stay");
        KiteYards x = flown("K22009Y920Y920");
        x.seeAt(1, 4);
        x.seed(-5L);
        writeAll(x, "K22009Y940");
        due("fly()", x.fly(), 1);
        due("about(8)", x.about(8), 1);
        due("winds(0), no kite 1", x.winds(0), 25);
        writeAll(x, "K00009Y940Y920");
        due("fly()", x.fly(), 2);
        // HIGH twice and 2 make 4: HIGH is 1.
        due("winds(1), a kite 1", x.winds(1), 3);
        due("winds(0), a kite 1", x.winds(0), 5);
        x.keep(0);
        x.again(0);
        due("about(8), gone on", x.about(8), 1);
        due("seed(0)", x.seed(0L), -5);
    }

    private static void unseeTellsHowMuchThereWas() {
        heading("unsee: Nothing was SEEN AT: how much there was");
        for (int many = 0; many <= 6; many++) {
            KiteYards x = flown(THREE);
            for (int time = 0; time < many; time++) {
                x.seeAt(time % 3, 30);
            }
            due("unsee() of " + many, x.unsee(), many);
            due("unsee() of none", x.unsee(), 0);
            due("about(8)", x.about(8), 0);
            due("winds(0)", x.winds(0), 25);
        }
        KiteYards cut = flown(THREE);
        cut.seeAt(2, 1);
        cut.cut(0);
        due("unsee(), all cut", cut.unsee(), 1);
    }

    private static void windsAre(KiteYards x, int many, int first, int low) {
        due("winds(0)", x.winds(0), many);
        due("winds(1)", x.winds(1), first);
        due("winds(2)", x.winds(2), low);
    }

    private static KiteYards seen(String letters, int... kitesAndPlaces) {
        KiteYards x = flown(letters);
        for (int row = 0; row + 1 < kitesAndPlaces.length; row += 2) {
            x.seeAt(kitesAndPlaces[row], kitesAndPlaces[row + 1]);
        }
        return x;
    }

    private static void windsFrom2To2Each() {
        heading("WINDS: pairs of LOW, HIGH (-2 .. 2 each)");
        // In LOW alone, and in HIGH alone.
        for (int wind = -2; wind <= 2; wind++) {
            windsAre(seen("K22109Y920", 0, wind), 5, 10 * (wind + 2), wind + 2);
            windsAre(seen("K22009Y920", 0, wind), 5, wind + 2, NONE);
            windsAre(seen("K22109Y920Y120", 0, wind, 1, wind - 2), 1, 10 * (wind + 2), wind + 2);
            windsAre(seen("K22109Y920Y120", 0, wind, 1, wind + 2), 1, 10 * (wind + 2) + 4, wind + 2);
        }
        windsAre(seen("K22109Y920", 0, 3), 0, NONE, NONE);
        windsAre(seen("K22109Y920", 0, -3), 0, NONE, NONE);
        windsAre(seen("K22009Y920", 0, 3), 0, NONE, NONE);
        windsAre(seen("K22009Y920", 0, -3), 0, NONE, NONE);
        // As far as can be.
        windsAre(seen("K22009Y940Y940Y940Y940Y940", 4, 20), 5, 4, NONE);
        windsAre(seen("K22009Y900Y900Y900Y900Y900", 4, -20), 5, 0, NONE);
        windsAre(seen("K22009Y940Y940Y940Y940Y940", 4, 21), 0, NONE, NONE);
    }

    private static void windsWithAllAndWithNone() {
        heading("WINDS: how many; NONE");
        KiteYards[] all = {new KiteYards(), flown(NO_KITES), flown(FIVE)};
        for (KiteYards x : all) {
            windsAre(x, 25, 0, NONE);
        }
        windsAre(seen(FIVE, 0, 1, 0, 2), 0, NONE, NONE);
    }

    private static void windsTheFirstOne() {
        heading("WINDS: the first one, by LOW, then HIGH, as two figures (2 more each)");
        // LOW and HIGH make 1: -1 and 2 come first.
        windsAre(seen("K22109Y920Y120", 1, 1), 4, 14, NONE);
        windsAre(seen("K22109Y920Y120", 1, -1), 4, 3, NONE);
        windsAre(seen("K22109Y920Y120", 1, 4), 1, 44, 4);
        windsAre(seen("K22109Y920Y120", 1, -4), 1, 0, 0);
    }

    private static void windsWhichLow() {
        heading("WINDS: which LOW is in all of them (2 more; NONE: not one)");
        windsAre(seen("K22109Y920", 0, -2), 5, 0, 0);
        windsAre(seen("K22109Y920", 0, 2), 5, 40, 4);
        windsAre(seen("K22109Y920Y120", 1, 3), 2, 34, NONE);
        windsAre(seen("K22109Y920Y120", 1, -3), 2, 1, NONE);
    }

    private static void windsOfKitesAsTheyAre() {
        heading("WINDS: .. by which KITES, as they are, are where they were SEEN");
        KiteYards x = seen("K22109Y920", 0, 1);
        windsAre(x, 5, 30, 3);
        x.set(0, 2);
        windsAre(x, 5, 10, 1);
        x.set(0, -2);
        windsAre(x, 0, NONE, NONE);
        x.undo();
        x.undo();
        // One yard more brings it to BORDER.
        x.letOut(0, 1);
        windsAre(x, 5, 3, NONE);
        // The winds of now have no part in it, nor has folding.
        x.turn(-2, -2);
        windsAre(x, 5, 3, NONE);
    }

    private static void windsBad() {
        heading("winds: BAD");
        KiteYards[] all = {new KiteYards(), flown(THREE), seen(THREE, 0, 30)};
        int[] wrong = {-1, 3, Integer.MAX_VALUE, Integer.MIN_VALUE};
        for (KiteYards x : all) {
            for (int what : wrong) {
                due("winds(" + what + ")", x.winds(what), BAD);
            }
        }
    }

    private static void restsAre(KiteYards x, int kite, int other, int p, int q, int first) {
        String rest = "(" + kite + ", " + other + ", " + p + ", " + q + ", ";
        due("rests" + rest + "0)", x.rests(kite, other, p, q, 0), first >= 0 ? 1 : first);
        due("rests" + rest + "1)", x.rests(kite, other, p, q, 1), first);
    }

    private static void restsOfPlaces20To20() {
        heading("RESTS of two KITES and PLACES p, q (-20 .. 20)");
        KiteYards x = flown(FIVE);
        restsAre(x, 0, 4, 20, 20, 44);
        restsAre(x, 0, 4, -20, -20, 0);
        restsAre(x, 0, 4, 20, -20, 40);
        restsAre(x, 0, 4, -20, 20, 4);
        restsAre(x, 4, 0, 20, -20, 40);
        int[] wrong = {21, -21, Integer.MAX_VALUE, Integer.MIN_VALUE};
        for (int place : wrong) {
            restsAre(x, 0, 4, place, 0, BAD);
            restsAre(x, 0, 4, 0, place, BAD);
            restsAre(x, 0, 4, place, place, BAD);
        }
        // As far as can be, but for the two.
        KiteYards far = flown("K44009Y940Y940Y940Y940Y940");
        restsAre(far, 3, 4, 20, 20, 44);
        restsAre(far, 3, 4, 15, 20, 34);
        restsAre(far, 3, 4, 0, 0, 0);
    }

    private static void restsByBridles2To2() {
        heading("each sets its own BRIDLE (-2 .. 2)");
        KiteYards x = flown("K22009Y920Y920");
        for (int p = -4; p <= 4; p++) {
            int own = Math.max(-2, Math.min(2, p));
            for (int q = -6; q <= 6; q++) {
                int others = Math.max(-2, Math.min(2, q - own));
                restsAre(x, 0, 1, p, q, 10 * (own + 2) + others + 2);
                restsAre(x, 1, 0, q, p, 10 * (others + 2) + own + 2);
            }
        }
    }

    private static void restsOfTheFirstKiteFirst() {
        heading("RESTS: .. (the first one to p); (as two figures, 2 more each, by the first KITE's)");
        KiteYards x = flown("K22009Y920Y920Y920");
        restsAre(x, 0, 2, 2, 1, 41);
        restsAre(x, 2, 0, 1, 2, 14);
        restsAre(x, 0, 2, -2, 0, 4);
        restsAre(x, 2, 0, 0, -2, 40);
    }

    private static void restsByItsOwnBridleAlone() {
        heading("pairs of BRIDLES in which neither comes nearer by another one alone");
        // The one between stays as it is, and so do the winds: LOW 1, HIGH -1 from 15 on.
        KiteYards x = flown("K31159Y920Y940Y930");
        // Places by bridles a, b: 1 and a; 2 and a; 1 and a and b.
        restsAre(x, 0, 2, 1, 1, 22);
        restsAre(x, 0, 2, 1, 2, 23);
        restsAre(x, 0, 2, 3, 2, 41);
        restsAre(x, 0, 2, -5, 4, 4);
        x.set(1, -2);
        // The last one is 4 farther down now.
        restsAre(x, 0, 2, 1, -2, 23);
    }

    private static void restsUnknown() {
        heading("rests: UNKNOWN: kite, other");
        KiteYards x = flown(THREE);
        int[] wrong = {-1, 3, 4, Integer.MAX_VALUE, Integer.MIN_VALUE};
        for (int kite : wrong) {
            restsAre(x, kite, 0, 0, 0, UNKNOWN);
            restsAre(x, 0, kite, 0, 0, UNKNOWN);
            restsAre(x, kite, kite, 0, 0, UNKNOWN);
            restsAre(x, kite, 0, 21, 21, UNKNOWN);
            due("rests(0, " + kite + ", 0, 0, 2)", x.rests(0, kite, 0, 0, 2), UNKNOWN);
        }
        restsAre(new KiteYards(), 0, 1, 0, 0, UNKNOWN);
        restsAre(flown("K22009Y920"), 0, 1, 0, 0, UNKNOWN);
    }

    private static void restsBad() {
        heading("rests: BAD: both are one, p, q, what");
        KiteYards x = flown(THREE);
        for (int kite = 0; kite < 3; kite++) {
            restsAre(x, kite, kite, 0, 0, BAD);
        }
        int[] wrong = {-1, 2, 3, Integer.MAX_VALUE, Integer.MIN_VALUE};
        for (int what : wrong) {
            due("rests(0, 1, 0, 0, " + what + ")", x.rests(0, 1, 0, 0, what), BAD);
        }
        restsAre(flown("K22009Y920"), 0, 0, 0, 0, BAD);
    }

    private static void gustsAre(KiteYards x, int a, int b, int above, int below) {
        due("gusts(" + a + ", " + b + ", true)", x.gusts(a, b, true), above);
        due("gusts(" + a + ", " + b + ", false)", x.gusts(a, b, false), below);
    }

    private static void gusts0And10Tenths() {
        heading("GUSTS: .. by x tenths (0 .. 10)");
        // Calm just if a gust comes low and one high.
        KiteYards x = flown("K00101Y920Y910");
        gustsAre(x, 0, 0, 0, 1);
        gustsAre(x, 10, 0, 0, 1);
        gustsAre(x, 0, 10, 0, 1);
        gustsAre(x, 10, 10, 1, 1);
        gustsAre(x, 1, 1, 1, 100);
        gustsAre(x, 10, 1, 1, 10);
        gustsAre(x, 1, 10, 1, 10);
        gustsAre(x, 9, 9, 81, 100);
    }

    private static void gustsEachByItself() {
        heading("GUSTS: LOW .. by x tenths, HIGH .. by y tenths, each by itself; FRACTIONS in least terms");
        KiteYards x = flown("K00101Y920Y910");
        gustsAre(x, 3, 7, 21, 100);
        gustsAre(x, 7, 3, 21, 100);
        gustsAre(x, 5, 5, 1, 4);
        gustsAre(x, 2, 5, 1, 10);
        gustsAre(x, 4, 6, 6, 25);
        gustsAre(x, 6, 5, 3, 10);
        gustsAre(x, 4, 5, 1, 5);
        // Folds but if a gust comes low, whatever comes high.
        gustsAre(flown("K02101Y920"), 3, 9, 3, 10);
        gustsAre(flown("K02101Y920"), 0, 10, 0, 1);
        gustsAre(flown("K02101Y920"), 10, 0, 1, 1);
    }

    private static void gustsOf1More() {
        heading("GUSTS: LOW is 1 more, HIGH 1 more");
        // LOW 2 becomes 3, HIGH too; -2 becomes -1.
        gustsAre(flown("K42502Y920"), 10, 0, 0, 1);
        gustsAre(flown("K42502Y920"), 4, 0, 3, 5);
        gustsAre(flown("K42503Y920"), 10, 0, 1, 1);
        gustsAre(flown("K24002Y920"), 0, 10, 0, 1);
        gustsAre(flown("K24003Y920"), 0, 10, 1, 1);
        gustsAre(flown("K24004Y940"), 0, 9, 1, 10);
        gustsAre(flown("K02501Y920"), 9, 0, 9, 10);
        gustsAre(flown("K20001Y920"), 0, 9, 9, 10);
        gustsAre(flown("K20001Y910"), 0, 10, 0, 1);
    }

    private static void gustsOrNone() {
        heading("GUSTS: .. 1 more by x tenths: as it is by the others");
        // BORDER, FOLD and kites; each by itself there is a gust, or there is none.
        String[] rests = {"001Y920", "101Y920", "101Y920Y920", "102Y930Y910", "501Y910", "001Y930Y930Y920"};
        for (String rest : rests) {
            for (int winds = 0; winds < 16; winds++) {
                int low = winds / 4 - 2;
                int high = winds % 4 - 2;
                KiteYards x = flown("K" + (low + 2) + (high + 2) + rest);
                for (int gust = 0; gust < 4; gust++) {
                    KiteYards y = flown("K44" + rest);
                    y.turn(low + gust / 2, high + gust % 2);
                    gustsAre(x, gust / 2 * 10, gust % 2 * 10, y.about(6) == 0 ? 1 : 0, 1);
                }
            }
        }
    }

    private static void gustsWithoutKites() {
        heading("GUSTS: the chance that no KITE FOLDS");
        KiteYards[] all = {new KiteYards(), flown(NO_KITES), flown("K44009Y940")};
        for (KiteYards x : all) {
            gustsAre(x, 0, 0, 1, 1);
            gustsAre(x, 10, 10, 1, 1);
            gustsAre(x, 3, 7, 1, 1);
        }
    }

    private static void gustsBad() {
        heading("gusts: BAD: x, y");
        KiteYards[] all = {new KiteYards(), flown(THREE)};
        int[] wrong = {-1, 11, Integer.MAX_VALUE, Integer.MIN_VALUE};
        for (KiteYards x : all) {
            for (int tenths : wrong) {
                gustsAre(x, tenths, 0, BAD, BAD);
                gustsAre(x, 0, tenths, BAD, BAD);
                gustsAre(x, tenths, tenths, BAD, BAD);
            }
        }
    }

    private static void seedIsAnyLong() {
        heading("seed: THE SEED is v: what it was (0 at first)");
        KiteYards x = new KiteYards();
        long before = 0L;
        long[] seeds = {Long.MAX_VALUE, Long.MIN_VALUE, -1L, 1L, 0L, 4294967296L, -4294967297L};
        for (long seed : seeds) {
            due("seed(" + seed + ")", x.seed(seed), before);
            due("seed(" + seed + "), once more", x.seed(seed), seed);
            before = seed;
        }
        due("seed(0), another object", new KiteYards().seed(0L), 0);
    }

    private static long next(long seed) {
        BigInteger product = BigInteger.valueOf(seed).multiply(BigInteger.valueOf(TIMES));
        return product.add(BigInteger.valueOf(MORE)).longValue();
    }

    private static void seedWraps() {
        heading("x times 6364136223846793005 and 1442695040888963407 (64 bits, wrapping)");
        long[] seeds = {0L, 1L, -1L, 2L, Long.MAX_VALUE, Long.MIN_VALUE, 3037000500L, -3037000500L};
        for (long seed : seeds) {
            KiteYards x = new KiteYards();
            x.seed(seed);
            long due = seed;
            for (int times = 1; times <= 30; times++) {
                due = next(due);
            }
            x.afternoons(30);
            due("THE SEED from " + seed, x.seed(0L), due);
        }
        KiteYards x = new KiteYards();
        x.afternoons(1);
        due("THE SEED from 0", x.seed(-1L), 1442695040888963407L);
        x.afternoons(1);
        due("THE SEED from -1", x.seed(0L), -4921441182957829598L);
    }

    /** What THE SEED has to be so that the next one is this. */
    private static long ahead(long next) {
        BigInteger round = BigInteger.ONE.shiftLeft(64);
        BigInteger back = BigInteger.valueOf(TIMES).modInverse(round);
        return BigInteger.valueOf(next).subtract(BigInteger.valueOf(MORE)).multiply(back).longValue();
    }

    private static int foldsIn(String letters, int low, int high) {
        KiteYards x = flown(letters);
        x.turn(low, high);
        return Integer.bitCount(x.about(6));
    }

    private static void drawIs(String letters, long next, int low, int high) {
        KiteYards x = flown(letters);
        x.seed(ahead(next));
        due("afternoons(1) of " + letters + " towards " + next, x.afternoons(1), foldsIn(letters, low, high));
        due("THE SEED then", x.seed(0L), next);
    }

    private static void whatIsLeftBy25() {
        heading("what is left of its upper 31 bits by 25: LOW is that by 5 (down), less 2, HIGH what is left by 5, less 2");
        // Each of these tells some winds from others by how many fold.
        String[] texts = {"K22101Y910Y910", "K22101Y930Y930", "K22101Y920Y900", "K22102Y940Y140", "K22101Y920Y130Y110"};
        for (String text : texts) {
            for (int draw = 0; draw < 25; draw++) {
                long upper = draw + 25L * (draw * 3435973L);
                drawIs(text, (upper << 33) | draw, draw / 5 - 2, draw % 5 - 2);
                // The other 33 bits have no part in it.
                drawIs(text, (long) draw << 33 | 0x1ffffffffL, draw / 5 - 2, draw % 5 - 2);
            }
            // All bits, that of the sign alone, all but that one, the lower 33, and the least upper one.
            drawIs(text, -1L, 2, 0);
            drawIs(text, Long.MIN_VALUE, 2, 2);
            drawIs(text, Long.MAX_VALUE, 2, 1);
            drawIs(text, 0x1ffffffffL, -2, -2);
            drawIs(text, 0x200000000L, -2, -1);
            drawIs(text, 0L, -2, -2);
        }
    }

    private static void afternoons1To30() {
        heading("AFTERNOONS: m times (1 .. 30); BAD: m");
        for (int m = 1; m <= 30; m++) {
            KiteYards x = flown("K22101Y920Y130Y110");
            long seed = 1000003L * m;
            x.seed(seed);
            int one = 0;
            for (int time = 0; time < m; time++) {
                one += x.afternoons(1);
            }
            long after = x.seed(seed);
            due("afternoons(" + m + ")", x.afternoons(m), one);
            due("THE SEED after " + m, x.seed(0L), after);
        }
        int[] wrong = {0, 31, -1, -30, Integer.MAX_VALUE, Integer.MIN_VALUE};
        KiteYards x = flown(THREE);
        x.seed(9L);
        for (int m : wrong) {
            due("afternoons(" + m + ")", x.afternoons(m), BAD);
        }
        due("THE SEED after what was refused", x.seed(0L), 9);
        due("afternoons(30), none folds", flown("K22009Y920").afternoons(30), 0);
        due("afternoons(30), no kites", new KiteYards().afternoons(30), 0);
    }

    private static void afternoonsAllTogether() {
        heading("how many KITES FOLD, all times together");
        KiteYards x = flown("K22001Y940Y900Y940Y900Y940");
        // The four upper ones fold in all winds, the first one where HIGH is 0 at least.
        int due = 30 * 4;
        long seed = 0L;
        for (int time = 0; time < 30; time++) {
            seed = next(seed);
            due += (seed >>> 33) % 5 >= 2 ? 1 : 0;
        }
        due("afternoons(30)", x.afternoons(30), due);
        x.seed(ahead(Long.MIN_VALUE));
        due("afternoons(1), all five", x.afternoons(1), 5);
    }

    private static void afternoonsChangeNothingButTheSeed() {
        heading("(Nothing changes but THE SEED.)");
        KiteYards x = rich();
        x.afternoons(30);
        holds("THE SEED is another one", x.seed(77L) != 77L);
        holds("all else is as it was", everything(x).equals(everything(rich())));
    }

    private static void slots0And1() {
        heading("SLOTS 0 .. 1; UNKNOWN (there is no such .. SLOT)");
        KiteYards[] all = {new KiteYards(), flown(THREE), rich()};
        int[] wrong = {-1, 2, 3, Integer.MAX_VALUE, Integer.MIN_VALUE};
        for (KiteYards x : all) {
            for (int slot : wrong) {
                due("keep(" + slot + ")", x.keep(slot), UNKNOWN);
                due("again(" + slot + ")", x.again(slot), UNKNOWN);
            }
        }
        // Each of the two by itself.
        KiteYards x = flown(THREE);
        due("keep(0)", x.keep(0), 3);
        x.cut(1);
        due("again(1)", x.again(1), LATE);
        due("keep(1)", x.keep(1), 1);
        due("again(0)", x.again(0), 3);
        due("again(1)", x.again(1), 1);
        due("again(0)", x.again(0), 3);
    }

    private static void keptOfNoKites() {
        heading("keep: how many KITES there are");
        KiteYards x = new KiteYards();
        x.turn(2, -2);
        due("keep(1), new", x.keep(1), 0);
        x.turn(0, 0);
        due("again(1)", x.again(1), 0);
        due("about(1)", x.about(1), 4);
        due("about(2)", x.about(2), 0);
        for (int kites = 0; kites <= 5; kites++) {
            KiteYards y = flown(FIVE.substring(0, 6 + 4 * kites));
            due("keep(0) of " + kites, y.keep(0), kites);
            y.cut(0);
            due("again(0) of " + kites, y.again(0), kites);
        }
    }

    private static void keptIsGoneWhenAStringFlies() {
        heading("fly: .. what was kept is gone");
        KiteYards x = flown(THREE);
        x.keep(0);
        x.keep(1);
        due("fly(), the same string", x.fly(), 3);
        due("again(0)", x.again(0), LATE);
        due("again(1)", x.again(1), LATE);
        due("keep(1)", x.keep(1), 3);
        due("again(0)", x.again(0), LATE);
        due("again(1)", x.again(1), 3);
    }

    private static void keptIsReplaced() {
        heading("They are kept");
        KiteYards x = flown(THREE);
        x.keep(0);
        x.letOut(0, 1);
        x.set(2, 2);
        x.turn(-1, -1);
        due("keep(0), anew", x.keep(0), 3);
        // What comes later is not kept, in whatever way it changes the kites.
        x.letOut(1, 9);
        x.set(0, -2);
        x.turn(2, 2);
        x.cut(0);
        due("again(0)", x.again(0), 3);
        int[][] wants = {{10, 2}, {8, 3}, {4, 4}};
        for (int kite = 0; kite < 3; kite++) {
            due("kite(" + kite + ", 0)", x.kite(kite, 0), wants[kite][0]);
            due("kite(" + kite + ", 1)", x.kite(kite, 1), wants[kite][1]);
        }
        due("about(1)", x.about(1), 1);
        due("about(2)", x.about(2), 1);
        // Nor is it changed by what comes after going on.
        x.letOut(0, 9);
        x.cut(2);
        due("again(0)", x.again(0), 3);
        due("kite(0, 0)", x.kite(0, 0), 10);
    }

    private static void noActsWhenOneGoesOn() {
        heading("(no ACTS when one goes on)");
        KiteYards x = flown(THREE);
        for (int act = 0; act < 14; act++) {
            x.turn(act % 2, 2);
        }
        due("keep(0)", x.keep(0), 3);
        due("about(7), kept", x.about(7), 14);
        due("undo()", x.undo(), 13);
        due("again(0)", x.again(0), 3);
        due("about(7), gone on", x.about(7), 0);
        due("undo()", x.undo(), LATE);
        due("about(1)", x.about(1), 3);
        due("turn(-2, -2)", x.turn(-2, -2), 34);
        due("about(7)", x.about(7), 1);
        due("undo()", x.undo(), 0);
        due("about(1)", x.about(1), 3);
    }

    private static void lateWhereNoneWereKept() {
        heading("again: LATE: none were kept");
        KiteYards x = flown(THREE);
        x.letOut(0, 1);
        due("again(0)", x.again(0), LATE);
        due("again(1)", x.again(1), LATE);
        due("about(7)", x.about(7), 1);
        due("again(0), new", new KiteYards().again(0), LATE);
        due("again(1), new", new KiteYards().again(1), LATE);
    }
}
