/** Part 1 of the terms, and promises 1 to 13: a test for each sentence that names an edge. */
public final class StringEdgeTest extends TestBase {
    private static final String FIGURES = "0123456789";

    public static void main(String[] args) {
        fiveKitesAtMost();
        kitesFromTheBoyOn();
        theDykeIsZero();
        textHasAtMost32Bytes();
        bytesAre0To255();
        emptyText();
        windsAreFigures0To4();
        borderIs00To50();
        foldIs1To9();
        noCommas();
        partsNoneOrMore();
        partsHaveYards1To9Bridles0To4Tails0To3();
        eachByteAtEachPlace();
        faultIsLengthWhereOnlyTheEndIsMissing();
        faultStaysWhateverComesBehind();
        faultWithTheLengthSetAside();
        atFirst();
        toldAnewItFliesAsTold();
        flyingAFaultChangesNothing();
        risesByNoLessThan0();
        windChangesAtBorder();
        border00And50();
        foldsMoreThanFoldApart();
        foldsFromTheBoysZero();
        seesAQuarterDown();
        seesFromItsOwnPlace();
        seesNothingIfSomeKiteFolds();
        seesNothingWithoutKites();
        asksPlacesFrom100To100();
        letsOutFrom9To9Not0();
        has1To30YardsThen();
        bridlesFrom2To2();
        setToAnotherOneOnly();
        cutTakesAllAbove();
        turnsFrom2To2();
        turnedToOthersOnly();
        aboutFrom0To9();
        kiteFrom0To5();
        actsAre14AtMost();
        theFirstActIsForgottenOfAnyKind();
        theLastActIsUndoneOfAnyKind();
        noActToUndo();
        refusedCallsAreNoActs();
        end();
    }

    private static void faultIs(String letters, int want) {
        KiteYards x = told(letters);
        due("fault() of " + letters, x.fault(), want);
        due("fly() of " + letters, x.fly(), want == NONE ? (letters.length() - 6) / 4 : LATE);
    }

    private static void fiveKitesAtMost() {
        heading("KITES are 0, 1, .. (5 at most)");
        String text = "K22009";
        for (int kites = 0; kites <= 5; kites++) {
            KiteYards x = told(text);
            due("fly() of " + text, x.fly(), kites);
            due("about(0)", x.about(0), kites);
            for (int kite = 0; kite < kites; kite++) {
                due("kite(" + kite + ", 0)", x.kite(kite, 0), kite + 1);
            }
            due("kite(" + kites + ", 0)", x.kite(kites, 0), UNKNOWN);
            due("kite(-1, 0)", x.kite(-1, 0), UNKNOWN);
            text += "Y" + (kites + 1) + "20";
        }
        faultIs(text, 26);
        faultIs(text.substring(0, 27), 26);
    }

    private static void kitesFromTheBoyOn() {
        heading("KITES .. from the boy on; numbered as they are told");
        KiteYards x = flown("K22009Y531Y322Y113");
        int[][] wants = {{5, 3, 1, 4}, {3, 2, 2, 5}, {1, 1, 3, 5}};
        for (int kite = 0; kite < 3; kite++) {
            for (int what = 0; what < 4; what++) {
                due("kite(" + kite + ", " + what + ")", x.kite(kite, what), wants[kite][what]);
            }
        }
    }

    private static void theDykeIsZero() {
        heading("the dyke is 0");
        KiteYards x = flown("K22009Y120");
        due("kite(0, 4)", x.kite(0, 4), 100);
        due("sees(0)", x.sees(0), 1);
        due("sees(1)", x.sees(1), 0);
        due("sees(-1)", x.sees(-1), 0);
    }

    private static void textHasAtMost32Bytes() {
        heading("THE TEXT is bytes (32 at most)");
        KiteYards x = new KiteYards();
        for (int length = 1; length <= 32; length++) {
            due("write(7)", x.write(7), length);
            due("about(9)", x.about(9), length);
        }
        due("write(7), the 33rd", x.write(7), FULL);
        due("write(7), the 34th", x.write(7), FULL);
        due("about(9)", x.about(9), 32);
        due("wipe()", x.wipe(), 32);
        due("write(7)", x.write(7), 1);
        // What was in the full text is not in the new one.
        writeAll(x, "K22009");
        due("fly()", x.fly(), 0);
    }

    private static void bytesAre0To255() {
        heading("A byte (0 .. 255)");
        KiteYards x = new KiteYards();
        due("write(0)", x.write(0), 1);
        due("write(255)", x.write(255), 2);
        int[] wrong = {-1, 256, -256, 331, Integer.MIN_VALUE, Integer.MAX_VALUE, 'K' + 256, 'K' - 256};
        for (int letter : wrong) {
            due("write(" + letter + ")", x.write(letter), BAD);
        }
        due("about(9)", x.about(9), 2);
    }

    private static void emptyText() {
        heading("THE TEXT is empty");
        KiteYards x = new KiteYards();
        due("about(9)", x.about(9), 0);
        due("fault()", x.fault(), 0);
        due("fly()", x.fly(), LATE);
        due("wipe()", x.wipe(), 0);
        writeAll(x, THREE);
        due("wipe()", x.wipe(), 18);
        due("fault()", x.fault(), 0);
        due("fly()", x.fly(), LATE);
        due("wipe()", x.wipe(), 0);
    }

    private static void windsAreFigures0To4() {
        heading("LOW, HIGH (winds: figures 0 .. 4, told as 2 more)");
        for (int low = 0; low <= 4; low++) {
            for (int high = 0; high <= 4; high++) {
                // The first kite is under BORDER, the second one at it.
                KiteYards x = flown("K" + low + high + "029Y120Y120");
                due("about(1)", x.about(1), low);
                due("about(2)", x.about(2), high);
                due("kite(0, 4)", x.kite(0, 4), 100 + low - 2);
                due("kite(1, 4)", x.kite(1, 4), 100 + low - 2 + high - 2);
            }
        }
        faultIs("K52019", 1);
        faultIs("K/2019", 1);
        faultIs("K25019", 2);
        faultIs("K2/019", 2);
    }

    private static void borderIs00To50() {
        heading("BORDER (two figures, 00 .. 50)");
        for (int border = 0; border <= 99; border++) {
            String text = "K22" + border / 10 + border % 10 + "9";
            faultIs(text, border <= 50 ? NONE : border < 60 ? 4 : 3);
            KiteYards x = told(text);
            x.fly();
            due("about(3) of " + text, x.about(3), border <= 50 ? border : 0);
        }
        // One figure alone is no BORDER.
        faultIs("K225", 4);
        faultIs("K225Y", 4);
        faultIs("K220Y920", 4);
    }

    private static void foldIs1To9() {
        heading("FOLD (1 .. 9)");
        for (int fold = 1; fold <= 9; fold++) {
            due("about(4)", flown("K2200" + fold).about(4), fold);
        }
        faultIs("K22000", 5);
        faultIs("K2200:", 5);
        faultIs("K2200/", 5);
        faultIs("K22010", 5);
        faultIs("K2201", 5);
    }

    private static void noCommas() {
        heading("one behind the other, no commas");
        for (int place = 0; place <= FIVE.length(); place++) {
            faultIs(FIVE.substring(0, place) + ",", place);
            faultIs(FIVE.substring(0, place) + "," + FIVE.substring(place), place);
            faultIs(FIVE.substring(0, place) + " ", place);
        }
    }

    private static void partsNoneOrMore() {
        heading("PARTS, none or more");
        KiteYards x = told("K31427");
        due("fault()", x.fault(), NONE);
        due("fly()", x.fly(), 0);
        int[] wants = {0, 3, 1, 42, 7, 0, 0, 0, 0, 6};
        for (int what = 0; what < wants.length; what++) {
            due("about(" + what + ")", x.about(what), wants[what]);
        }
        faultIs("K31427Y000", 7);
        faultIs("K31427Y100", NONE);
    }

    private static void partsHaveYards1To9Bridles0To4Tails0To3() {
        heading("Yybt: YARDS (1 .. 9), BRIDLE (0 .. 4, told as 2 more), TAIL (0 .. 3)");
        for (int yards = 1; yards <= 9; yards++) {
            due("YARDS " + yards, flown("K22009Y" + yards + "20").kite(0, 0), yards);
        }
        for (int bridle = 0; bridle <= 4; bridle++) {
            KiteYards x = flown("K22009Y1" + bridle + "0");
            due("BRIDLE " + bridle, x.kite(0, 1), bridle);
            due("PLACE by BRIDLE " + bridle, x.kite(0, 4), 100 + bridle - 2);
        }
        for (int tail = 0; tail <= 3; tail++) {
            due("TAIL " + tail, flown("K22009Y12" + tail).kite(0, 2), tail);
        }
        faultIs("K22009Y0", 7);
        faultIs("K22009Y:", 7);
        faultIs("K22009Y15", 8);
        faultIs("K22009Y1/", 8);
        faultIs("K22009Y124", 9);
        faultIs("K22009Y12/", 9);
        faultIs("K22009X", 6);
        faultIs("K22009Z", 6);
    }

    private static String allowed(int place, String ahead) {
        switch (place) {
            case 0:
                return "K";
            case 1:
            case 2:
                return "01234";
            case 3:
                return "012345";
            case 4:
                return ahead.charAt(3) == '5' ? "0" : FIGURES;
            case 5:
                return "123456789";
            default:
                String[] part = {"Y", "123456789", "01234", "0123"};
                return place < 26 ? part[(place - 6) % 4] : "";
        }
    }

    private static void eachByteAtEachPlace() {
        heading("FAULT: the place of the first byte by which THE TEXT can be no STRING");
        String[] texts = {FIVE, "K44509Y143Y143Y143Y143Y143", "K00001Y900Y900Y900Y900Y900"};
        for (String text : texts) {
            for (int place = 0; place <= text.length(); place++) {
                String ahead = text.substring(0, place);
                for (int letter = 0; letter <= 255; letter++) {
                    KiteYards x = told(ahead);
                    x.write(letter);
                    int length = place + 1;
                    int due = length >= 6 && (length - 6) % 4 == 0 ? NONE : length;
                    boolean fits = allowed(place, ahead).indexOf(letter) >= 0;
                    due("fault() of " + ahead + " and " + letter, x.fault(), fits ? due : place);
                }
            }
        }
    }

    private static void faultIsLengthWhereOnlyTheEndIsMissing() {
        heading("FAULT: .. its length, if it is only not at its end; NONE: none");
        for (int length = 0; length <= 26; length++) {
            faultIs(FIVE.substring(0, length), length >= 6 && length % 4 == 2 ? NONE : length);
        }
    }

    private static void faultStaysWhateverComesBehind() {
        heading("FAULT: .. whatever came behind it");
        String[] faulty = {"k", "K5", "K25", "K226", "K2251", "K22000", "K22009K", "K22009Y0", "K22009Y15", "K22009Y124"};
        for (String text : faulty) {
            KiteYards x = told(text);
            for (int length = text.length(); length <= 32; length++) {
                due("fault() at " + length + " behind " + text, x.fault(), text.length() - 1);
                x.write(FIVE.charAt(length % FIVE.length()));
            }
            due("fly() behind " + text, x.fly(), LATE);
        }
        // Another fault behind the first one does not count.
        faultIs("K2x0yYYY", 2);
        faultIs("K22510x9", 4);
    }

    private static void faultWithTheLengthSetAside() {
        heading("FAULT: .. (its length set aside)");
        // The last 5 bytes' part would not fit into 32 bytes; what counts is that there is no sixth kite.
        faultIs(FIVE + "Y920Y9", 26);
        faultIs(FIVE + "YYYYYY", 26);
        faultIs("KKKKKKKKKKKKKKKKKKKKKKKKKKKKKKKK", 1);
        KiteYards x = told(FIVE + "Y920Y9");
        due("write(50), the 33rd", x.write('2'), FULL);
        due("fault()", x.fault(), 26);
    }

    private static void atFirst() {
        heading("At first LOW, HIGH are 0, BORDER 0, FOLD 1, there are no KITES");
        KiteYards x = new KiteYards();
        int[] wants = {0, 2, 2, 0, 1, 0, 0, 0, 0, 0};
        for (int what = 0; what < wants.length; what++) {
            due("about(" + what + ")", x.about(what), wants[what]);
        }
        due("turn(0, 0)", x.turn(0, 0), LATE);
        due("turn(1, -1)", x.turn(1, -1), 22);
        due("seed(3)", x.seed(3L), 0);
        due("letOut(0, 1)", x.letOut(0, 1), UNKNOWN);
        due("set(0, 1)", x.set(0, 1), UNKNOWN);
        due("cut(0)", x.cut(0), UNKNOWN);
        due("keep(0)", x.keep(0), 0);
        due("undo()", x.undo(), 0);
        due("again(0)", x.again(0), 0);
        // The winds are those that were kept.
        due("about(1)", x.about(1), 3);
        due("about(2)", x.about(2), 1);
    }

    private static void toldAnewItFliesAsTold() {
        heading("THE STRING made anew flies as told");
        String fresh = picture(flown(THREE));
        KiteYards x = flown(THREE);
        x.letOut(0, 9);
        x.set(1, -2);
        x.turn(2, 2);
        x.cut(2);
        due("fly()", x.fly(), 3);
        sameAs("changing and flying anew", fresh, x);
        writeAll(x, "K22001Y120");
        due("fly()", x.fly(), 1);
        due("about(5)", x.about(5), 1);
        due("kite(1, 0)", x.kite(1, 0), UNKNOWN);
        writeAll(x, FIVE);
        due("fly()", x.fly(), 5);
        due("about(5)", x.about(5), 25);
        due("fly()", x.fly(), 5);
        due("about(9): THE TEXT itself stays", x.about(9), 26);
    }

    private static void flyingAFaultChangesNothing() {
        heading("fly: LATE: a FAULT");
        KiteYards x = flown(THREE);
        x.letOut(0, 1);
        x.keep(0);
        x.seeAt(0, 1);
        x.seed(8L);
        x.write('Y');
        String before = picture(x);
        due("fly()", x.fly(), LATE);
        sameAs("fly() of a fault", before, x);
        due("undo()", x.undo(), 0);
        due("again(0)", x.again(0), 3);
        due("kite(0, 0)", x.kite(0, 0), 10);
        due("seed(0)", x.seed(0L), 8);
    }

    private static void risesByNoLessThan0() {
        heading("A KITE rises by its YARDS less its TAIL (0 at least)");
        for (int yards = 1; yards <= 9; yards++) {
            for (int tail = 0; tail <= 3; tail++) {
                KiteYards x = flown("K22009Y520Y" + yards + "2" + tail);
                int rises = yards > tail ? yards - tail : 0;
                due("kite(1, 3) by " + yards + ", " + tail, x.kite(1, 3), 5 + rises);
            }
        }
        KiteYards x = flown("K22009Y123");
        int[] wants = {0, 0, 0, 1, 2};
        for (int yards = 1; yards <= 5; yards++) {
            haveYards(x, 0, yards);
            due("kite(0, 3) by " + yards + ", 3", x.kite(0, 3), wants[yards - 1]);
        }
    }

    private static void windChangesAtBorder() {
        heading("LOW, if its HEIGHT is less than BORDER, else HIGH");
        KiteYards x = flown("K04109Y720");
        for (int height = 7; height <= 13; height++) {
            haveYards(x, 0, height);
            due("kite(0, 4) at " + height, x.kite(0, 4), height < 10 ? 98 : 102);
        }
        // By the height of the kite itself, not by that of the one below.
        KiteYards two = flown("K04109Y920Y120Y120");
        due("kite(0, 4)", two.kite(0, 4), 98);
        due("kite(1, 4)", two.kite(1, 4), 100);
        due("kite(2, 4)", two.kite(2, 4), 102);
    }

    private static void border00And50() {
        heading("BORDER 00 .. 50");
        // Height 0 is not less than 0.
        due("kite(0, 4), BORDER 00", flown("K04009Y121").kite(0, 4), 102);
        due("kite(0, 4), BORDER 01", flown("K04019Y121").kite(0, 4), 98);
        due("kite(0, 4), BORDER 01, height 1", flown("K04019Y120").kite(0, 4), 102);
        KiteYards x = flown("K04509Y920Y920");
        haveYards(x, 0, 30);
        haveYards(x, 1, 19);
        due("kite(1, 4) at 49", x.kite(1, 4), 96);
        haveYards(x, 1, 20);
        due("kite(1, 4) at 50", x.kite(1, 4), 100);
    }

    private static void foldsMoreThanFoldApart() {
        heading("It FOLDS, if .. lie more than FOLD apart");
        for (int fold = 1; fold <= 9; fold++) {
            for (int first = -2; first <= 2; first++) {
                for (int second = -2; second <= 2; second++) {
                    String parts = fold + "Y1" + (first + 2) + "0Y1" + (second + 2) + "0";
                    // LOW -2, HIGH 2 and the other way round: the leans are up to 8 apart.
                    int up = (Math.abs(first - 2) > fold ? 1 : 0) + (second + 4 - first > fold ? 2 : 0);
                    due("about(6) of K0402" + parts, flown("K0402" + parts).about(6), up);
                    int down = (first + 2 > fold ? 1 : 0) + (first + 4 - second > fold ? 2 : 0);
                    due("about(6) of K4002" + parts, flown("K4002" + parts).about(6), down);
                }
            }
        }
    }

    private static void foldsFromTheBoysZero() {
        heading("what the one below LEANS by (the boy: 0)");
        due("kite(0, 5), leans 1", flown("K22001Y130").kite(0, 5), 0);
        due("kite(0, 5), leans -1", flown("K22001Y110").kite(0, 5), 0);
        due("kite(0, 5), leans 2", flown("K22001Y140").kite(0, 5), 1);
        due("kite(0, 5), leans -2", flown("K22001Y100").kite(0, 5), 1);
        due("kite(0, 5), leans 4, FOLD 4", flown("K44004Y140").kite(0, 5), 0);
        due("kite(0, 5), leans 4, FOLD 3", flown("K44003Y140").kite(0, 5), 1);
        due("kite(0, 5), leans -4, FOLD 3", flown("K00003Y100").kite(0, 5), 1);
        due("kite(0, 5), leans -4, FOLD 4", flown("K00004Y100").kite(0, 5), 0);
        // By what they lean, not by where they are: the second one is at 2 and leans 1.
        due("about(6), leans 1 1", flown("K22001Y130Y130").about(6), 0);
        due("about(6), leans 1 0 -1", flown("K22001Y130Y120Y110").about(6), 0);
        due("about(6), all five", flown("K22001Y140Y100Y140Y100Y140").about(6), 31);
        due("kite(4, 5), all five", flown("K22001Y140Y100Y140Y100Y140").kite(4, 5), 1);
    }

    private static void seesAQuarterDown() {
        heading("SEES PLACES that are no farther .. than a quarter (down) of its HEIGHT");
        int[][] rows = {{1, 0}, {3, 0}, {4, 1}, {5, 1}, {7, 1}, {8, 2}, {11, 2}, {12, 3}, {27, 6}, {28, 7}, {30, 7}};
        KiteYards x = flown("K22009Y120");
        for (int[] row : rows) {
            haveYards(x, 0, row[0]);
            due("sees(" + row[1] + ") from " + row[0], x.sees(row[1]), 1);
            due("sees(" + (row[1] + 1) + ") from " + row[0], x.sees(row[1] + 1), 0);
            due("sees(" + -row[1] + ") from " + row[0], x.sees(-row[1]), 1);
            due("sees(" + (-row[1] - 1) + ") from " + row[0], x.sees(-row[1] - 1), 0);
        }
        KiteYards none = flown("K22009Y121");
        due("sees(0) from 0", none.sees(0), 1);
        due("sees(1) from 0", none.sees(1), 0);
        due("sees(-1) from 0", none.sees(-1), 0);
    }

    private static void seesFromItsOwnPlace() {
        heading("The last KITE SEES PLACES that are no farther from its own one");
        // As high and as far as can be: 150 and 20, it sees -17 .. 57; and the other way.
        for (int side = -1; side <= 1; side += 2) {
            KiteYards x = flown(side > 0 ? "K44009Y940Y940Y940Y940Y940" : "K00009Y900Y900Y900Y900Y900");
            for (int kite = 0; kite < 5; kite++) {
                haveYards(x, kite, 30);
            }
            due("kite(4, 3)", x.kite(4, 3), 150);
            due("about(5)", x.about(5), 150);
            due("kite(4, 4)", x.kite(4, 4), 100 + side * 20);
            due("sees its far end", x.sees(side * 57), 1);
            due("sees past its far end", x.sees(side * 58), 0);
            due("sees its near end", x.sees(side * -17), 1);
            due("sees past its near end", x.sees(side * -18), 0);
        }
    }

    private static void seesNothingIfSomeKiteFolds() {
        heading("nothing, if some KITE FOLDS");
        due("sees(0), none", flown("K22001Y920Y920Y920").sees(0), 1);
        // In each of these just one kite folds; what the last one leans by is not the cause.
        due("sees(2), the first", flown("K22001Y940Y930Y920").sees(3), 0);
        due("about(6), the first", flown("K22001Y940Y930Y920").about(6), 1);
        due("sees(3), the second", flown("K22001Y920Y940Y930").sees(3), 0);
        due("about(6), the second", flown("K22001Y920Y940Y930").about(6), 2);
        due("sees(2), the third", flown("K22001Y920Y920Y940").sees(2), 0);
        due("about(6), the third", flown("K22001Y920Y920Y940").about(6), 4);
    }

    private static void seesNothingWithoutKites() {
        heading("nothing .. or there is none");
        KiteYards x = new KiteYards();
        due("sees(0), new", x.sees(0), 0);
        due("sees(100), new", x.sees(100), 0);
        KiteYards y = flown(THREE);
        y.cut(0);
        for (int place = -10; place <= 10; place++) {
            due("sees(" + place + "), all cut", y.sees(place), 0);
        }
    }

    private static void asksPlacesFrom100To100() {
        heading("sees: BAD: place (-100 .. 100)");
        KiteYards[] all = {new KiteYards(), flown(THREE)};
        for (KiteYards x : all) {
            due("sees(100)", x.sees(100), 0);
            due("sees(-100)", x.sees(-100), 0);
            int[] wrong = {101, -101, 200, -200, Integer.MAX_VALUE, Integer.MIN_VALUE};
            for (int place : wrong) {
                due("sees(" + place + ")", x.sees(place), BAD);
            }
        }
    }

    private static void letsOutFrom9To9Not0() {
        heading("d YARDS more (-9 .. 9, not 0; less: wound in)");
        for (int d = -9; d <= 9; d++) {
            KiteYards x = flown("K22009Y920");
            haveYards(x, 0, 15);
            due("letOut(0, " + d + ")", x.letOut(0, d), d == 0 ? BAD : 15 + d);
            due("kite(0, 0)", x.kite(0, 0), 15 + d);
        }
        KiteYards x = flown("K22009Y920");
        haveYards(x, 0, 15);
        int[] wrong = {0, 10, -10, 14, -14, Integer.MAX_VALUE, Integer.MIN_VALUE};
        for (int d : wrong) {
            due("letOut(0, " + d + ")", x.letOut(0, d), BAD);
        }
        due("kite(0, 0)", x.kite(0, 0), 15);
    }

    private static void has1To30YardsThen() {
        heading("1 .. 30 it has then; LATE: it would have less than 1, more than 30");
        KiteYards x = flown("K22009Y120Y920");
        for (int d = -9; d <= -1; d++) {
            due("letOut(0, " + d + ") from 1", x.letOut(0, d), LATE);
        }
        due("letOut(1, -8) from 9", x.letOut(1, -8), 1);
        due("letOut(1, 9) from 1", x.letOut(1, 9), 10);
        due("letOut(1, -9) from 10", x.letOut(1, -9), 1);
        haveYards(x, 1, 9);
        due("letOut(1, -9) from 9", x.letOut(1, -9), LATE);
        haveYards(x, 1, 21);
        due("letOut(1, 9) from 21", x.letOut(1, 9), 30);
        for (int d = 1; d <= 9; d++) {
            due("letOut(1, " + d + ") from 30", x.letOut(1, d), LATE);
        }
        due("letOut(1, -1) from 30", x.letOut(1, -1), 29);
        due("letOut(1, 2) from 29", x.letOut(1, 2), LATE);
        due("letOut(1, 1) from 29", x.letOut(1, 1), 30);
        // Less than the tail is no reason to refuse.
        KiteYards tail = flown("K22009Y523");
        due("letOut(0, -4)", tail.letOut(0, -4), 1);
        due("kite(0, 3)", tail.kite(0, 3), 0);
    }

    private static void bridlesFrom2To2() {
        heading("set: BAD: bridle (-2 .. 2)");
        for (int bridle = -2; bridle <= 2; bridle++) {
            int from = bridle == 0 ? 4 : 2;
            KiteYards x = flown("K22009Y9" + from + "0");
            due("set(0, " + bridle + ")", x.set(0, bridle), from);
            due("kite(0, 1)", x.kite(0, 1), bridle + 2);
            due("kite(0, 4)", x.kite(0, 4), 100 + bridle);
        }
        KiteYards x = flown(THREE);
        int[] wrong = {-3, 3, 4, -4, Integer.MAX_VALUE, Integer.MIN_VALUE};
        for (int bridle : wrong) {
            due("set(0, " + bridle + ")", x.set(0, bridle), BAD);
        }
        due("set(3, 1)", x.set(3, 1), UNKNOWN);
        due("set(-1, 1)", x.set(-1, 1), UNKNOWN);
        due("set(2, 1), the last one", x.set(2, 1), 2);
    }

    private static void setToAnotherOneOnly() {
        heading("SET: another BRIDLE; LATE: it has that");
        KiteYards x = flown("K22009Y900Y910Y920Y930Y940");
        for (int kite = 0; kite < 5; kite++) {
            due("set(" + kite + ", its own)", x.set(kite, kite - 2), LATE);
        }
        due("about(7)", x.about(7), 0);
        due("set(0, 2)", x.set(0, 2), 0);
        due("set(0, 2)", x.set(0, 2), LATE);
        due("set(0, -2)", x.set(0, -2), 4);
    }

    private static void cutTakesAllAbove() {
        heading("CUT: a KITE and all above it are gone");
        for (int kite = 0; kite < 5; kite++) {
            KiteYards x = flown(FIVE);
            due("cut(5)", x.cut(5), UNKNOWN);
            due("cut(-1)", x.cut(-1), UNKNOWN);
            due("cut(" + kite + ")", x.cut(kite), kite);
            due("about(0)", x.about(0), kite);
            for (int above = kite; above < 5; above++) {
                due("kite(" + above + ", 0)", x.kite(above, 0), UNKNOWN);
                due("cut(" + above + ")", x.cut(above), UNKNOWN);
            }
            if (kite > 0) {
                due("kite(" + (kite - 1) + ", 0)", x.kite(kite - 1, 0), 11 - 2 * kite);
            }
            due("about(7)", x.about(7), 1);
            due("undo()", x.undo(), 0);
            due("about(5)", x.about(5), 25);
        }
    }

    private static void turnsFrom2To2() {
        heading("turn: BAD: low, high (-2 .. 2 each)");
        KiteYards x = flown("K22009");
        int before = 22;
        for (int low = -2; low <= 2; low++) {
            for (int high = -2; high <= 2; high++) {
                int then = 10 * (low + 2) + high + 2;
                due("turn(" + low + ", " + high + ")", x.turn(low, high), before == then ? LATE : before);
                due("about(1)", x.about(1), low + 2);
                due("about(2)", x.about(2), high + 2);
                before = then;
            }
        }
        int[] wrong = {-3, 3, Integer.MAX_VALUE, Integer.MIN_VALUE};
        for (int wind : wrong) {
            due("turn(" + wind + ", 0)", x.turn(wind, 0), BAD);
            due("turn(0, " + wind + ")", x.turn(0, wind), BAD);
            due("turn(" + wind + ", " + wind + ")", x.turn(wind, wind), BAD);
        }
        due("about(1)", x.about(1), 4);
        due("about(2)", x.about(2), 4);
    }

    private static void turnedToOthersOnly() {
        heading("TURNED: LOW and HIGH are others; LATE: they are so");
        KiteYards x = flown("K13009");
        due("turn(-1, 1)", x.turn(-1, 1), LATE);
        // One of the two being another one is enough.
        due("turn(-1, 0)", x.turn(-1, 0), 13);
        due("turn(1, 0)", x.turn(1, 0), 12);
        due("turn(1, 0)", x.turn(1, 0), LATE);
        due("about(7)", x.about(7), 2);
    }

    private static void aboutFrom0To9() {
        heading("about: BAD");
        KiteYards[] all = {new KiteYards(), flown(THREE)};
        int[] wrong = {-1, 10, 11, -10, Integer.MAX_VALUE, Integer.MIN_VALUE};
        for (KiteYards x : all) {
            for (int what : wrong) {
                due("about(" + what + ")", x.about(what), BAD);
            }
            holds("about(9) is told", x.about(9) >= 0);
            holds("about(0) is told", x.about(0) >= 0);
        }
    }

    private static void kiteFrom0To5() {
        heading("kite: UNKNOWN; BAD");
        KiteYards x = flown(THREE);
        int[] wrong = {-1, 6, 7, Integer.MAX_VALUE, Integer.MIN_VALUE};
        for (int what : wrong) {
            due("kite(2, " + what + ")", x.kite(2, what), BAD);
            due("kite(3, " + what + ")", x.kite(3, what), UNKNOWN);
        }
        int[] noKites = {-1, 3, 4, 5, Integer.MAX_VALUE, Integer.MIN_VALUE};
        for (int kite : noKites) {
            for (int what = 0; what <= 5; what++) {
                due("kite(" + kite + ", " + what + ")", x.kite(kite, what), UNKNOWN);
            }
        }
    }

    private static void actsAre14AtMost() {
        heading("ACTS are a row (14 at most; when it is full, the first one is forgotten)");
        for (int acts = 12; acts <= 30; acts++) {
            KiteYards x = flown("K22009Y920");
            for (int act = 1; act <= acts; act++) {
                // 10, 11, .. 22, and then one down and one up in turn.
                x.letOut(0, act <= 13 ? 1 : act % 2 == 0 ? -1 : 1);
                due("about(7) after " + act, x.about(7), Math.min(14, act));
            }
            int left = Math.min(14, acts);
            while (left > 0) {
                left--;
                due("undo() of " + acts, x.undo(), left);
            }
            int forgotten = Math.max(0, acts - 14);
            int yards = forgotten <= 13 ? 9 + forgotten : forgotten % 2 == 0 ? 21 : 22;
            due("kite(0, 0) with " + forgotten + " forgotten", x.kite(0, 0), yards);
            due("undo()", x.undo(), LATE);
        }
        // A full row from which one is undone takes one more without forgetting.
        KiteYards y = flown("K22009Y920");
        for (int act = 0; act < 14; act++) {
            y.letOut(0, 1);
        }
        due("undo()", y.undo(), 13);
        due("letOut(0, 8)", y.letOut(0, 8), 30);
        due("about(7)", y.about(7), 14);
        for (int left = 13; left >= 0; left--) {
            due("undo()", y.undo(), left);
        }
        due("kite(0, 0)", y.kite(0, 0), 9);
    }

    private static int act(KiteYards x, int kind) {
        switch (kind) {
            case 0:
                return x.letOut(2, 9);
            case 1:
                return x.set(2, -2);
            case 2:
                return x.cut(1);
            default:
                return x.turn(2, -2);
        }
    }

    private static void theFirstActIsForgottenOfAnyKind() {
        heading("the first one is forgotten");
        for (int kind = 0; kind < 4; kind++) {
            KiteYards x = flown(THREE);
            act(x, kind);
            String after = picture(x);
            for (int time = 0; time < 7; time++) {
                x.letOut(0, 1);
                x.letOut(0, -1);
            }
            due("about(7)", x.about(7), 14);
            for (int left = 13; left >= 0; left--) {
                due("undo()", x.undo(), left);
            }
            due("undo()", x.undo(), LATE);
            // The one that was forgotten is not undone; it is no more in the row.
            holds("act " + kind + " stays", after.replace(" 1 0 18 ", " 0 0 18 ").equals(picture(x)));
        }
    }

    private static void theLastActIsUndoneOfAnyKind() {
        heading("the last one can be undone");
        for (int kind = 0; kind < 4; kind++) {
            for (int other = 0; other < 4; other++) {
                KiteYards x = flown(THREE);
                String first = picture(x);
                act(x, kind);
                String second = picture(x);
                if (act(x, other) >= 0) {
                    due("undo() of " + other, x.undo(), 1);
                }
                sameAs(kind + ", " + other + " and undo()", second, x);
                due("undo() of " + kind, x.undo(), 0);
                sameAs(kind + " and undo()", first, x);
                due("undo()", x.undo(), LATE);
            }
        }
    }

    private static void noActToUndo() {
        heading("undo: LATE: there is none");
        due("undo(), new", new KiteYards().undo(), LATE);
        KiteYards x = flown(THREE);
        due("undo(), flown", x.undo(), LATE);
        x.letOut(0, 1);
        x.fly();
        due("undo(), flown anew", x.undo(), LATE);
        x.keep(0);
        x.letOut(0, 1);
        x.again(0);
        due("undo(), gone on", x.undo(), LATE);
        due("about(7)", x.about(7), 0);
    }

    private static void refusedCallsAreNoActs() {
        heading("What is refused changes nothing");
        KiteYards x = flown(THREE);
        x.letOut(0, 1);
        x.letOut(0, 0);
        x.letOut(0, 30);
        x.letOut(7, 1);
        x.letOut(2, -4);
        x.set(0, 0);
        x.set(0, 3);
        x.set(3, 0);
        x.cut(3);
        x.cut(-1);
        x.turn(0, 1);
        x.turn(3, 3);
        due("about(7)", x.about(7), 1);
        due("undo()", x.undo(), 0);
        due("kite(0, 0)", x.kite(0, 0), 9);
    }
}
