import java.util.function.ToLongFunction;

/** Part 2 of the terms, and promises 14 to 21: a test for each sentence that names an edge. */
public final class SeenEdgeTest extends TestBase {
    private static final String LOW_FIVE = "K22009Y120Y120Y120Y120Y120";

    public static void main(String[] args) {
        nothingIsChanged();
        cheapestBy0To3Each();
        cheapestBy30AtMostThen();
        cheapestByTheFewestTogether();
        cheapestTheLeastAsANumber();
        cheapestFoldsOrNot();
        cheapestNone();
        cheapestBad();
        fewestAtLeast();
        fewestOtherwiseOnly();
        fewestTheLeastAsANumber();
        fewestNone();
        fewestBad();
        whereToCutLeavesSome();
        whereToCutTheGreatest();
        whereToCutNone();
        dropsAllAbove();
        wordsOf1To6Figures();
        figuresOf0To3();
        arrivesLeftBy4();
        arrivesWithoutKites();
        sentIsWhatArrivesBack();
        takenWithOneSlipOrNone();
        aSlipGoesRoundBy4();
        takenWithoutKites();
        shareOfPlaces9To9();
        shareInEachOrder();
        shareLessThan0();
        shareOf0AndInLeastTerms();
        shareUnknown();
        end();
    }

    private static void unchangedBy(String call, ToLongFunction<KiteYards> question) {
        KiteYards x = rich();
        String before = everything(rich());
        long first = question.applyAsLong(x);
        due(call + ", once more", question.applyAsLong(x), first);
        holds(call + " changes nothing", before.equals(everything(x)));
    }

    private static void nothingIsChanged() {
        heading("In what follows nothing is changed");
        unchangedBy("sees(1)", x -> x.sees(1));
        unchangedBy("fault()", x -> x.fault());
        unchangedBy("about(6)", x -> x.about(6));
        unchangedBy("kite(2, 4)", x -> x.kite(2, 4));
        for (int what = 0; what < 2; what++) {
            int asked = what;
            unchangedBy("cheapest(9, " + what + ")", x -> x.cheapest(9, asked));
            unchangedBy("cheapest(90, " + what + ")", x -> x.cheapest(90, asked));
            unchangedBy("fewest(9, " + what + ")", x -> x.fewest(9, asked));
            unchangedBy("fewest(-90, " + what + ")", x -> x.fewest(-90, asked));
            unchangedBy("rests(2, 0, 9, -9, " + what + ")", x -> x.rests(2, 0, 9, -9, asked));
            unchangedBy("share(" + what + ", false)", x -> x.share(asked, false));
        }
        unchangedBy("whereToCut()", x -> x.whereToCut());
        unchangedBy("drops(1)", x -> x.drops(1));
        unchangedBy("arrives(3, 123)", x -> x.arrives(3, 123));
        unchangedBy("sent(3, 123)", x -> x.sent(3, 123));
        unchangedBy("taken(3, 123, 132)", x -> x.taken(3, 123, 132));
        unchangedBy("winds(0)", x -> x.winds(0));
        unchangedBy("winds(1)", x -> x.winds(1));
        unchangedBy("winds(2)", x -> x.winds(2));
        unchangedBy("gusts(10, 5, true)", x -> x.gusts(10, 5, true));
    }

    private static void cheapestIs(KiteYards x, int place, int yards, int way) {
        due("cheapest(" + place + ", 0)", x.cheapest(place, 0), yards);
        due("cheapest(" + place + ", 1)", x.cheapest(place, 1), way);
    }

    private static void cheapestBy0To3Each() {
        heading("CHEAPEST: how many YARDS more (0 .. 3 each KITE)");
        KiteYards one = flown("K22009Y920");
        cheapestIs(one, 2, 0, 0);
        cheapestIs(one, -2, 0, 0);
        cheapestIs(one, 3, 3, 3);
        cheapestIs(one, -3, 3, 3);
        cheapestIs(one, 4, NONE, NONE);
        cheapestIs(one, -4, NONE, NONE);
        KiteYards two = flown("K22009Y920Y920");
        cheapestIs(two, 4, 0, 0);
        cheapestIs(two, 6, 6, 33);
        cheapestIs(two, 7, NONE, NONE);
        KiteYards five = flown(LOW_FIVE);
        cheapestIs(five, 1, 0, 0);
        cheapestIs(five, 2, 3, 3);
        cheapestIs(five, 3, 7, 133);
        cheapestIs(five, 4, 11, 2333);
        cheapestIs(five, 5, 15, 33333);
        cheapestIs(five, 6, NONE, NONE);
        // Less than its tail: the first two yards raise nothing.
        cheapestIs(flown("K22009Y123Y320"), 1, 1, 1);
        cheapestIs(flown("K22009Y123Y120"), 1, 3, 3);
    }

    private static KiteYards withYards(String letters, int... yards) {
        KiteYards x = flown(letters);
        for (int kite = 0; kite < yards.length; kite++) {
            haveYards(x, kite, yards[kite]);
        }
        return x;
    }

    private static void cheapestBy30AtMostThen() {
        heading("CHEAPEST: (.. 30 at most then)");
        // Place 7 needs a height of 28.
        cheapestIs(withYards("K22009Y922", 27), 7, 3, 3);
        cheapestIs(withYards("K22009Y923", 28), 7, NONE, NONE);
        cheapestIs(withYards("K22009Y922", 29), 7, 1, 1);
        cheapestIs(withYards("K22009Y923", 29), 7, NONE, NONE);
        cheapestIs(withYards("K22009Y922", 30), 7, 0, 0);
        cheapestIs(withYards("K22009Y923", 30), 7, NONE, NONE);
        cheapestIs(withYards("K22009Y923", 30), 6, 0, 0);
        // Place 10 needs 40: where the one is full, the other one has to.
        cheapestIs(withYards("K22009Y923Y920", 30, 10), 10, 3, 3);
        cheapestIs(withYards("K22009Y920Y923", 10, 30), 10, 3, 30);
        cheapestIs(withYards("K22009Y923Y920", 30, 9), 10, NONE, NONE);
        // Each by itself: both can be as long as 30.
        cheapestIs(withYards("K22009Y920Y920", 29, 29), 15, 2, 11);
        cheapestIs(withYards("K22009Y920Y920", 30, 30), 15, 0, 0);
        cheapestIs(withYards("K22009Y920Y920", 30, 30), 16, NONE, NONE);
    }

    private static void cheapestByTheFewestTogether() {
        heading("CHEAPEST: the fewest together");
        // 1 for the first one brings it over BORDER; 23 as a number is less than 100, but 5 together.
        KiteYards x = flown(THREE);
        cheapestIs(x, 9, 1, 100);
        cheapestIs(x, 8, 1, 1);
        cheapestIs(x, -3, 5, 23);
        // One more for the first brings the upper one into HIGH as well.
        cheapestIs(flown("K24109Y920Y120"), 7, 2, 11);
    }

    private static void cheapestTheLeastAsANumber() {
        heading("CHEAPEST: the first such way (the least as a number)");
        cheapestIs(flown("K22009Y920Y920"), 5, 2, 2);
        cheapestIs(flown("K22009Y920Y920Y120"), 5, 1, 1);
        cheapestIs(flown("K22009Y920Y720Y120"), 5, 3, 3);
        cheapestIs(flown("K22009Y920Y620Y120"), 5, 4, 13);
    }

    private static void cheapestFoldsOrNot() {
        heading("CHEAPEST: .. so that the last one SEES it");
        // In LOW it folds; 2 more bring it to BORDER.
        cheapestIs(flown("K42091Y720"), 0, 2, 2);
        cheapestIs(flown("K42111Y720"), 0, NONE, NONE);
        // In HIGH it folds, where it sees farther.
        cheapestIs(flown("K24101Y920"), 2, 0, 0);
        cheapestIs(flown("K24101Y920"), 3, NONE, NONE);
    }

    private static void cheapestNone() {
        heading("CHEAPEST: NONE");
        KiteYards[] all = {new KiteYards(), flown(NO_KITES)};
        for (KiteYards x : all) {
            cheapestIs(x, 0, NONE, NONE);
            cheapestIs(x, 100, NONE, NONE);
        }
        cheapestIs(flown(FIVE), 100, NONE, NONE);
        cheapestIs(flown(FIVE), -100, NONE, NONE);
        cheapestIs(flown("K22001Y940"), 2, NONE, NONE);
    }

    private static void cheapestBad() {
        heading("cheapest: BAD: place, what");
        KiteYards[] all = {new KiteYards(), flown(THREE)};
        int[] places = {101, -101, Integer.MAX_VALUE, Integer.MIN_VALUE};
        int[] whats = {-1, 2, Integer.MAX_VALUE, Integer.MIN_VALUE};
        for (KiteYards x : all) {
            for (int place : places) {
                cheapestIs(x, place, BAD, BAD);
            }
            for (int what : whats) {
                due("cheapest(0, " + what + ")", x.cheapest(0, what), BAD);
                due("cheapest(101, " + what + ")", x.cheapest(101, what), BAD);
            }
        }
    }

    private static void fewestIs(KiteYards x, int place, int many, int way) {
        due("fewest(" + place + ", 0)", x.fewest(place, 0), many);
        due("fewest(" + place + ", 1)", x.fewest(place, 1), way);
    }

    private static void fewestAtLeast() {
        heading("FEWEST: how many BRIDLES to SET otherwise, at least");
        KiteYards five = flown(LOW_FIVE);
        fewestIs(five, 1, 0, 22222);
        fewestIs(five, -1, 0, 22222);
        fewestIs(five, 2, 1, 22223);
        fewestIs(five, 3, 1, 22224);
        fewestIs(five, 4, 2, 22234);
        fewestIs(five, 11, 5, 44444);
        fewestIs(five, 12, NONE, NONE);
        fewestIs(five, -11, 5, 0);
        fewestIs(five, -12, NONE, NONE);
        // One that folds has to be set otherwise, or its neighbour.
        fewestIs(flown("K22001Y940"), 0, 1, 1);
        fewestIs(flown("K22001Y920Y940"), 0, 1, 21);
        fewestIs(flown("K22001Y920Y940"), 4, 1, 22);
        fewestIs(flown("K22001Y920Y940"), 5, 1, 23);
    }

    private static void fewestOtherwiseOnly() {
        heading("FEWEST: .. to SET otherwise");
        KiteYards x = flown("K22009Y940");
        fewestIs(x, 0, 0, 4);
        fewestIs(x, 4, 0, 4);
        fewestIs(x, -1, 1, 0);
        fewestIs(x, 5, NONE, NONE);
        // Those that stay stand in the way as they are.
        fewestIs(flown("K22009Y900Y140Y110"), -1, 0, 41);
        fewestIs(flown("K22009Y900Y140Y110"), 4, 1, 44);
        fewestIs(flown("K22009Y900Y140Y110"), 5, 1, 441);
    }

    private static void fewestTheLeastAsANumber() {
        heading("FEWEST: the first such way (2 more than the BRIDLE; the least as a number)");
        KiteYards five = flown(LOW_FIVE);
        fewestIs(five, -2, 1, 2222);
        fewestIs(five, -4, 2, 222);
        fewestIs(flown("K22009Y120Y120"), 1, 1, 23);
        fewestIs(flown("K22009Y120Y120"), -1, 1, 12);
    }

    private static void fewestNone() {
        heading("FEWEST: NONE");
        KiteYards[] all = {new KiteYards(), flown(NO_KITES)};
        for (KiteYards x : all) {
            fewestIs(x, 0, NONE, NONE);
            fewestIs(x, -100, NONE, NONE);
        }
        fewestIs(flown(FIVE), 100, NONE, NONE);
        fewestIs(flown(FIVE), -100, NONE, NONE);
        // FOLD 1 leaves leans of -1 .. 1: past 1 and a quarter of 9 there is nothing.
        fewestIs(flown("K22001Y920"), 3, 1, 3);
        fewestIs(flown("K22001Y920"), 4, NONE, NONE);
    }

    private static void fewestBad() {
        heading("fewest: BAD: place, what");
        KiteYards[] all = {new KiteYards(), flown(THREE)};
        int[] places = {101, -101, Integer.MAX_VALUE, Integer.MIN_VALUE};
        int[] whats = {-1, 2, Integer.MAX_VALUE, Integer.MIN_VALUE};
        for (KiteYards x : all) {
            for (int place : places) {
                fewestIs(x, place, BAD, BAD);
            }
            for (int what : whats) {
                due("fewest(0, " + what + ")", x.fewest(0, what), BAD);
                due("fewest(101, " + what + ")", x.fewest(101, what), BAD);
            }
        }
    }

    private static void whereToCutLeavesSome() {
        heading("WHERE TO CUT: .. leaves some KITES");
        due("one kite", flown("K22001Y920").whereToCut(), NONE);
        due("two kites", flown("K22001Y920Y920").whereToCut(), 1);
        due("two, the second folds", flown("K22001Y920Y940").whereToCut(), 1);
        due("two, the first folds", flown("K22001Y940Y930").whereToCut(), NONE);
    }

    private static void whereToCutTheGreatest() {
        heading("WHERE TO CUT: the greatest KITE .. none of which FOLDS");
        due("five, none folds", flown(FIVE).whereToCut(), 4);
        due("five, the last folds", flown("K22001Y920Y920Y920Y920Y940").whereToCut(), 4);
        due("five, the fourth folds", flown("K22001Y920Y920Y920Y940Y930").whereToCut(), 3);
        due("five, the third folds", flown("K22001Y920Y920Y940Y930Y920").whereToCut(), 2);
        due("five, the second folds", flown("K22001Y920Y940Y930Y920Y920").whereToCut(), 1);
        due("five, the first folds", flown("K22001Y940Y930Y920Y920Y920").whereToCut(), NONE);
        // However many fold above.
        due("five, the second and all above fold", flown("K22001Y920Y940Y900Y940Y900").whereToCut(), 1);
        due("five, the third and all above fold", flown("K22001Y920Y920Y940Y900Y940").whereToCut(), 2);
        due("five, the fourth and the fifth fold", flown("K22001Y920Y920Y920Y940Y900").whereToCut(), 3);
        due("five, the second and the fifth fold", flown("K22001Y920Y940Y930Y920Y900").whereToCut(), 1);
        due("five, all fold", flown("K22001Y940Y900Y940Y900Y940").whereToCut(), NONE);
        // After cutting there, none folds; the next cut is one lower.
        KiteYards x = flown("K22001Y920Y920Y940Y930Y920");
        x.cut(x.whereToCut());
        due("about(6)", x.about(6), 0);
        due("then", x.whereToCut(), 1);
        x.cut(1);
        due("then", x.whereToCut(), NONE);
    }

    private static void whereToCutNone() {
        heading("WHERE TO CUT: NONE");
        due("new", new KiteYards().whereToCut(), NONE);
        KiteYards x = flown(FIVE);
        x.cut(0);
        due("all cut", x.whereToCut(), NONE);
    }

    private static void dropsAllAbove() {
        heading("DROPS: YARDS that are gone, if a KITE is CUT; UNKNOWN");
        KiteYards x = flown(FIVE);
        int[] wants = {25, 16, 9, 4, 1, UNKNOWN};
        for (int kite = 0; kite <= 5; kite++) {
            due("drops(" + kite + ")", x.drops(kite), wants[kite]);
        }
        due("drops(-1)", x.drops(-1), UNKNOWN);
        due("drops(max)", x.drops(Integer.MAX_VALUE), UNKNOWN);
        due("drops(min)", x.drops(Integer.MIN_VALUE), UNKNOWN);
        due("drops(0), new", new KiteYards().drops(0), UNKNOWN);
        // YARDS, whatever the TAIL is.
        due("drops(0), tails", flown("K22009Y123Y133").drops(0), 2);
    }

    private static void wordIs(KiteYards x, int n, int word, boolean good) {
        String rest = "(" + n + ", " + word + ")";
        holds("arrives" + rest + " as due", (x.arrives(n, word) == BAD) != good);
        holds("sent" + rest + " as due", (x.sent(n, word) == BAD) != good);
        due("taken" + rest, x.taken(n, word, word), good ? 1 : BAD);
    }

    private static void wordsOf1To6Figures() {
        heading("words of n figures (1 .. 6); BAD: n, word (n figures at most)");
        KiteYards[] all = {new KiteYards(), flown(THREE)};
        for (KiteYards x : all) {
            int power = 1;
            for (int n = 1; n <= 6; n++) {
                wordIs(x, n, 0, true);
                wordIs(x, n, power, true);
                wordIs(x, n, 10 * power - 1 - (10 * power - 1) / 9 * 6, true);
                wordIs(x, n, 10 * power, false);
                power *= 10;
            }
            int[] wrong = {0, 7, -1, 10, Integer.MAX_VALUE, Integer.MIN_VALUE};
            for (int n : wrong) {
                wordIs(x, n, 0, false);
                wordIs(x, n, 1, false);
            }
            wordIs(x, 6, 1000000, false);
            wordIs(x, 6, Integer.MAX_VALUE, false);
        }
    }

    private static void figuresOf0To3() {
        heading("words .. 0 .. 3 each");
        KiteYards[] all = {new KiteYards(), flown(THREE)};
        for (KiteYards x : all) {
            int power = 1;
            for (int place = 0; place < 6; place++) {
                for (int figure = 0; figure <= 9; figure++) {
                    wordIs(x, 6, 123321 % power + figure * power, figure <= 3);
                }
                power *= 10;
            }
            wordIs(x, 1, -1, false);
            wordIs(x, 6, -123, false);
            wordIs(x, 6, Integer.MIN_VALUE, false);
            due("taken(2, 4, 0)", x.taken(2, 4, 0), BAD);
            due("taken(2, 0, 4)", x.taken(2, 0, 4), BAD);
            due("taken(2, 0, -1)", x.taken(2, 0, -1), BAD);
            due("taken(2, 100, 0)", x.taken(2, 100, 0), BAD);
            due("taken(2, 0, 100)", x.taken(2, 0, 100), BAD);
            due("taken(7, 0, 0)", x.taken(7, 0, 0), BAD);
        }
    }

    private static void arrivesLeftBy4() {
        heading("TUGS: each one makes of each tug what is left by 4 of that and its BRIDLE and 2");
        for (int bridle = 0; bridle <= 4; bridle++) {
            KiteYards x = flown("K22009Y9" + bridle + "0");
            for (int tug = 0; tug <= 3; tug++) {
                int due = new int[] {0, 1, 2, 3, 0, 1, 2, 3}[tug + bridle];
                due("arrives(1, " + tug + ") by " + bridle, x.arrives(1, tug), due);
                due("sent(1, " + due + ") by " + bridle, x.sent(1, due), tug);
            }
        }
        // Five: 20, 15, 5 and 0 together.
        due("by 44444", flown("K22009Y940Y940Y940Y940Y940").arrives(6, 12301), 12301);
        due("by 33333", flown("K22009Y930Y930Y930Y930Y930").arrives(6, 12301), 301230);
        due("by 11111", flown("K22009Y910Y910Y910Y910Y910").arrives(6, 12301), 123012);
        due("by 00000", flown("K22009Y900Y900Y900Y900Y900").arrives(6, 12301), 12301);
        // Winds, yards and folding have no part in it.
        due("by 3, folding", flown("K44001Y133").arrives(4, 3210), 2103);
    }

    private static void arrivesWithoutKites() {
        heading("ARRIVES, SENT where there is no KITE");
        KiteYards[] all = {new KiteYards(), flown(NO_KITES)};
        int[] words = {0, 3, 12, 333333, 100000};
        for (KiteYards x : all) {
            for (int word : words) {
                due("arrives(6, " + word + ")", x.arrives(6, word), word);
                due("sent(6, " + word + ")", x.sent(6, word), word);
            }
        }
    }

    private static void sentIsWhatArrivesBack() {
        heading("SENT: what the last one sent, if the boy felt a word");
        String[] texts = {"K22009Y930", "K22009Y930Y930", "K22009Y910Y940Y920", "K22009Y930Y930Y930Y930Y910"};
        for (String text : texts) {
            KiteYards x = flown(text);
            for (int code = 0; code < 64; code++) {
                int word = 100 * (code / 16) + 10 * (code / 4 % 4) + code % 4;
                due("sent of arrives " + word + " in " + text, x.sent(3, x.arrives(3, word)), word);
            }
        }
        due("sent(1, 0) by 3", flown("K22009Y930").sent(1, 0), 1);
        due("sent(3, 0) by 13", flown("K22009Y930Y930Y930Y940").sent(3, 0), 333);
    }

    /** By how much the one is behind the other, by 4. */
    private static int behind(int one, int other) {
        return (one - other + 4) % 4;
    }

    private static void takenWithOneSlipOrNone() {
        heading("TAKEN: if of both the same can arrive, with one SLIP or none at each word");
        String[] texts = {"K22009Y920", "K22009Y930Y910", FIVE};
        for (String text : texts) {
            KiteYards x = flown(text);
            for (int pair = 0; pair < 256; pair++) {
                int first = behind(pair / 64, pair / 16 % 4);
                int second = behind(pair / 4 % 4, pair % 4);
                int word = 10 * (pair / 64) + pair / 4 % 4;
                int other = 10 * (pair / 16 % 4) + pair % 4;
                // One tug can be set right by both slips; of two each slip sets right one, by 1.
                boolean both = first != 2 && second != 2;
                due("taken(2, " + word + ", " + other + ")", x.taken(2, word, other),
                    first == 0 || second == 0 || both ? 1 : 0);
            }
        }
        KiteYards x = flown("K22009Y920");
        due("taken(6, .., the first and last)", x.taken(6, 100001, 200000), 1);
        due("taken(6, .., three)", x.taken(6, 100101, 200000), 0);
        due("taken(6, .., all)", x.taken(6, 111111, 222222), 0);
        due("taken(6, .., one by 2)", x.taken(6, 131111, 111111), 1);
        due("taken(6, .., one by 2, one by 1)", x.taken(6, 131112, 111111), 0);
    }

    private static void aSlipGoesRoundBy4() {
        heading("A SLIP: one more, or one less, than it ought to (what is left by 4)");
        KiteYards x = flown("K22009Y920");
        due("taken(2, 33, 0): 3 and 1 are 0", x.taken(2, 33, 0), 1);
        due("taken(2, 30, 3): up and down", x.taken(2, 30, 3), 1);
        due("taken(2, 0, 33): 0 less 1 is 3", x.taken(2, 0, 33), 1);
        due("taken(2, 31, 13): 2 apart each", x.taken(2, 31, 13), 0);
        due("taken(3, 333, 0)", x.taken(3, 333, 0), 0);
    }

    private static void takenWithoutKites() {
        heading("TAKEN: (without KITES: if they are one)");
        KiteYards cut = flown(THREE);
        cut.cut(0);
        KiteYards[] all = {new KiteYards(), flown(NO_KITES), cut};
        for (KiteYards x : all) {
            due("taken(1, 0, 0)", x.taken(1, 0, 0), 1);
            due("taken(1, 0, 1)", x.taken(1, 0, 1), 0);
            due("taken(1, 0, 3)", x.taken(1, 0, 3), 0);
            due("taken(6, 123012, 123012)", x.taken(6, 123012, 123012), 1);
            due("taken(6, 123012, 123013)", x.taken(6, 123012, 123013), 0);
        }
    }

    private static void shareIs(KiteYards x, int kite, int above, int below) {
        due("share(" + kite + ", true)", x.share(kite, true), above);
        due("share(" + kite + ", false)", x.share(kite, false), below);
    }

    /** What all of them see: the shares make it up. */
    private static int sumOfShares(KiteYards x) {
        int sum = 0;
        for (int kite = 0; kite < x.about(0); kite++) {
            sum += x.share(kite, true) * (120 / x.share(kite, false));
        }
        return sum;
    }

    private static void shareOfPlaces9To9() {
        heading("SHARE: PLACES -9 .. 9");
        int[][] rows = {{19, 9}, {20, 11}, {24, 12}, {28, 13}, {30, 13}};
        for (int[] row : rows) {
            // At 4, and at -4.
            shareIs(withYards("K44009Y940", row[0]), 0, row[1], 1);
            shareIs(withYards("K00009Y900", row[0]), 0, row[1], 1);
        }
        // Just one place is seen: that at 9, at 10, at -9, at -10.
        due("at 9", sumOfShares(flown("K44009Y141Y141Y111")), 120);
        due("at 10", sumOfShares(flown("K44009Y141Y141Y121")), 0);
        due("at -9", sumOfShares(flown("K00009Y101Y101Y131")), 120);
        due("at -10", sumOfShares(flown("K00009Y101Y101Y121")), 0);
        // From 3 and 13 on either side all 19 are seen.
        due("all", sumOfShares(withYards("K22009Y920Y920", 30, 30)), 19 * 120);
    }

    private static void shareInEachOrder() {
        heading("SHARE: if KITES come one by one, in each order as likely, those that have come fly in their order");
        // Leans 1, 2, -1 by FOLD 1. Alone 5, 0, 5; the first two 9; the others, and all, fold.
        KiteYards x = flown("K22001Y930Y940Y910");
        shareIs(x, 0, 7, 3);
        shareIs(x, 1, -1, 6);
        shareIs(x, 2, -13, 6);
        // One alone: as much as it sees; with none that comes ahead.
        shareIs(flown("K22001Y930"), 0, 5, 1);
        shareIs(flown("K22001Y940"), 0, 0, 1);
        due("five", sumOfShares(flown(FIVE)), 13 * 120);
    }

    private static void shareLessThan0() {
        heading("SHARE: (less than 0: the upper one is)");
        KiteYards x = flown("K22001Y920Y240");
        shareIs(x, 0, 5, 2);
        shareIs(x, 1, -5, 2);
    }

    private static void shareOf0AndInLeastTerms() {
        heading("FRACTIONS are told .. in least terms");
        shareIs(flown("K22001Y940Y940"), 0, 0, 1);
        shareIs(flown("K22001Y940Y940"), 1, 0, 1);
        String[] texts = {THREE, FIVE, "K22001Y920Y930Y940Y930Y920", "K13204Y931Y922Y813Y703Y142",
            "K31152Y930Y820Y710Y620Y530", "K40091Y220Y330Y440Y110"};
        for (String text : texts) {
            KiteYards x = flown(text);
            for (int kite = 0; kite < x.about(0); kite++) {
                int above = Math.abs(x.share(kite, true));
                int below = x.share(kite, false);
                holds("below is 1 at least in " + text, below >= 1 && 120 % below == 0);
                for (int common = 2; common <= below; common++) {
                    holds(above + "/" + below + " in least terms", above % common != 0 || below % common != 0);
                }
            }
        }
    }

    private static void shareUnknown() {
        heading("share: UNKNOWN");
        KiteYards x = flown(THREE);
        int[] wrong = {-1, 3, 4, 5, Integer.MAX_VALUE, Integer.MIN_VALUE};
        for (int kite : wrong) {
            shareIs(x, kite, UNKNOWN, UNKNOWN);
            shareIs(new KiteYards(), kite, UNKNOWN, UNKNOWN);
        }
        shareIs(new KiteYards(), 0, UNKNOWN, UNKNOWN);
    }
}
