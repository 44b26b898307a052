/** For each promise of the document: ordinary inputs, the edges it names, wrong inputs. */
public final class PromiseTest extends TestBase {
    public static void main(String[] args) {
        newObject();
        write();
        wipe();
        fault();
        fly();
        about();
        kite();
        letOut();
        set();
        cut();
        turn();
        undo();
        sees();
        cheapest();
        fewest();
        whereToCut();
        drops();
        share();
        arrives();
        sent();
        taken();
        seeAt();
        unsee();
        winds();
        rests();
        gusts();
        seed();
        afternoons();
        keep();
        again();
        end();
    }

    private static void newObject() {
        heading("promise 1");
        KiteYards x = new KiteYards();
        int[] wants = {0, 2, 2, 0, 1, 0, 0, 0, 0, 0};
        for (int what = 0; what < wants.length; what++) {
            due("about(" + what + ")", x.about(what), wants[what]);
        }
        due("kite(0, 0)", x.kite(0, 0), UNKNOWN);
        due("undo()", x.undo(), LATE);
        due("again(0)", x.again(0), LATE);
        due("again(1)", x.again(1), LATE);
        due("wipe()", x.wipe(), 0);
        due("unsee()", x.unsee(), 0);
        due("seed(1)", x.seed(1L), 0);
    }

    private static void write() {
        heading("promise 2");
        KiteYards x = new KiteYards();
        due("write(-1)", x.write(-1), BAD);
        due("write(256)", x.write(256), BAD);
        due("write(min)", x.write(Integer.MIN_VALUE), BAD);
        due("about(9)", x.about(9), 0);
        due("write(0)", x.write(0), 1);
        due("write(255)", x.write(255), 2);
        for (int i = 3; i <= 32; i++) {
            due("write(75)", x.write(75), i);
        }
        due("write(75), the 33rd", x.write(75), FULL);
        due("write(256), the 33rd", x.write(256), BAD);
        due("about(9)", x.about(9), 32);
    }

    private static void wipe() {
        heading("promise 3");
        KiteYards x = flown(THREE);
        due("wipe()", x.wipe(), 18);
        due("wipe()", x.wipe(), 0);
        due("about(9)", x.about(9), 0);
        due("about(0)", x.about(0), 3);
        due("fault()", x.fault(), 0);
        for (int i = 0; i < 32; i++) {
            x.write('K');
        }
        due("wipe()", x.wipe(), 32);
        due("write(75)", x.write('K'), 1);
    }

    private static void faultOf(String letters, int want) {
        KiteYards x = new KiteYards();
        writeAll(x, letters);
        due("fault() of " + letters, x.fault(), want);
        due("fly() of " + letters, x.fly(), want == NONE ? (letters.length() - 6) / 4 : LATE);
    }

    private static void fault() {
        heading("promise 4");
        faultOf("", 0);
        faultOf("k", 0);
        faultOf("Y", 0);
        faultOf("K", 1);
        faultOf("K5", 1);
        faultOf("K/", 1);
        faultOf("K4", 2);
        faultOf("K05", 2);
        faultOf("K04", 3);
        faultOf("K046", 3);
        faultOf("K045", 4);
        faultOf("K0451", 4);
        faultOf("K0459", 4);
        faultOf("K0450", 5);
        faultOf("K0449", 5);
        faultOf("K044:", 4);
        faultOf("K04490", 5);
        faultOf("K0449:", 5);
        faultOf("K04491", NONE);
        faultOf("K04509", NONE);
        faultOf("K04509y", 6);
        faultOf("K04509,", 6);
        faultOf("K04509Y", 7);
        faultOf("K04509Y0", 7);
        faultOf("K04509Y9", 8);
        faultOf("K04509Y95", 8);
        faultOf("K04509Y94", 9);
        faultOf("K04509Y944", 9);
        faultOf("K04509Y943", NONE);
        faultOf("K04509Y943K", 10);
        faultOf("K04509Y943Y1", 12);
        faultOf("K04509Y943Y100", NONE);
        faultOf(FIVE, NONE);
        faultOf(FIVE + "Y", 26);
        faultOf(FIVE + "Y920", 26);
        faultOf(FIVE + "Y920YY", 26);
        faultOf("K2xK", 2);
        faultOf("xxxxxxxxxxxxxxxxxxxxxxxxxxxxxxxx", 0);
        KiteYards x = new KiteYards();
        x.write('K');
        x.write(255);
        due("fault()", x.fault(), 1);
        x.write(0);
        due("fault()", x.fault(), 1);
    }

    private static void fly() {
        heading("promise 5");
        KiteYards x = new KiteYards();
        due("fly()", x.fly(), LATE);
        writeAll(x, THREE);
        due("about(0) ahead", x.about(0), 0);
        due("fly()", x.fly(), 3);
        due("about(9)", x.about(9), 18);
        due("fault()", x.fault(), NONE);
        x.letOut(0, 5);
        x.keep(0);
        x.keep(1);
        x.seeAt(2, 3);
        x.seed(77L);
        x.write('Y');
        String before = picture(x);
        due("fly()", x.fly(), LATE);
        sameAs("fly()", before, x);
        due("undo()", x.undo(), 0);
        due("again(1)", x.again(1), 3);
        x.letOut(0, 1);
        x.write('1');
        x.write('2');
        x.write('3');
        due("fly()", x.fly(), 4);
        due("kite(0, 0)", x.kite(0, 0), 9);
        due("kite(3, 2)", x.kite(3, 2), 3);
        due("about(7)", x.about(7), 0);
        due("undo()", x.undo(), LATE);
        due("again(0)", x.again(0), LATE);
        due("again(1)", x.again(1), LATE);
        due("about(8)", x.about(8), 1);
        due("seed(0)", x.seed(0L), 77);
        writeAll(x, "K04507");
        due("fly()", x.fly(), 0);
        due("about(1)", x.about(1), 0);
        due("about(2)", x.about(2), 4);
        due("about(3)", x.about(3), 50);
        due("about(4)", x.about(4), 7);
        due("kite(0, 0)", x.kite(0, 0), UNKNOWN);
    }

    private static void about() {
        heading("promise 6");
        KiteYards x = flown(THREE);
        int[] wants = {3, 2, 3, 10, 2, 21, 0, 0, 0, 18};
        for (int what = 0; what < wants.length; what++) {
            due("about(" + what + ")", x.about(what), wants[what]);
        }
        due("about(-1)", x.about(-1), BAD);
        due("about(10)", x.about(10), BAD);
        due("about(min)", x.about(Integer.MIN_VALUE), BAD);
        x.turn(-2, 2);
        // Leans -2, 3, 2: the second one lies 5 from the first, the first one 2 from the boy.
        due("about(1)", x.about(1), 0);
        due("about(2)", x.about(2), 4);
        due("about(6)", x.about(6), 2);
        x.set(0, -1);
        due("about(6)", x.about(6), 3);
        due("about(7)", x.about(7), 2);
        x.seeAt(0, 0);
        due("about(8)", x.about(8), 1);
        x.cut(1);
        due("about(0)", x.about(0), 1);
        due("about(5)", x.about(5), 9);
        due("about(6)", x.about(6), 1);
        due("about(6) with FOLD 1", flown("K44001Y940Y900Y940Y900Y940").about(6), 31);
        due("about(6) at FOLD", flown("K42001Y930").about(6), 0);
        due("about(6) at FOLD", flown("K22001Y930").about(6), 0);
        due("about(6) past FOLD", flown("K22001Y940").about(6), 1);
        due("about(6) past FOLD, less", flown("K22001Y900").about(6), 1);
    }

    private static void kite() {
        heading("promise 7");
        KiteYards x = flown(THREE);
        int[][] wants = {{9, 2, 0, 9, 100, 0}, {8, 3, 1, 16, 102, 0}, {4, 2, 1, 19, 103, 0}};
        for (int kite = 0; kite < 3; kite++) {
            for (int what = 0; what < 6; what++) {
                due("kite(" + kite + ", " + what + ")", x.kite(kite, what), wants[kite][what]);
            }
        }
        due("kite(0, 6)", x.kite(0, 6), BAD);
        due("kite(0, -1)", x.kite(0, -1), BAD);
        due("kite(3, 0)", x.kite(3, 0), UNKNOWN);
        due("kite(-1, 0)", x.kite(-1, 0), UNKNOWN);
        due("kite(3, 6)", x.kite(3, 6), UNKNOWN);
        due("kite(max, 0)", x.kite(Integer.MAX_VALUE, 0), UNKNOWN);
        // A tail longer than the yards rises by 0.
        KiteYards y = flown("K00009Y103Y300Y333");
        due("kite(0, 3)", y.kite(0, 3), 0);
        due("kite(0, 4)", y.kite(0, 4), 96);
        due("kite(1, 3)", y.kite(1, 3), 3);
        due("kite(2, 3)", y.kite(2, 3), 3);
        due("kite(2, 4)", y.kite(2, 4), 91);
        // At BORDER it is HIGH.
        KiteYards z = flown("K13091Y920Y120");
        due("kite(0, 4) at BORDER", z.kite(0, 4), 101);
        due("kite(0, 5)", z.kite(0, 5), 0);
        z.letOut(0, -1);
        due("kite(0, 4) under BORDER", z.kite(0, 4), 99);
        due("kite(1, 4)", z.kite(1, 4), 100);
        due("kite(1, 5)", z.kite(1, 5), 1);
        due("kite(0, 5)", z.kite(0, 5), 0);
    }

    private static void letOut() {
        heading("promise 8");
        KiteYards x = flown(THREE);
        due("letOut(0, 9)", x.letOut(0, 9), 18);
        due("letOut(0, 9)", x.letOut(0, 9), 27);
        String before = picture(x);
        due("letOut(0, 4)", x.letOut(0, 4), LATE);
        due("letOut(0, 10)", x.letOut(0, 10), BAD);
        due("letOut(0, -10)", x.letOut(0, -10), BAD);
        due("letOut(0, 0)", x.letOut(0, 0), BAD);
        due("letOut(0, max)", x.letOut(0, Integer.MAX_VALUE), BAD);
        due("letOut(0, min)", x.letOut(0, Integer.MIN_VALUE), BAD);
        due("letOut(3, 0)", x.letOut(3, 0), UNKNOWN);
        due("letOut(-1, 1)", x.letOut(-1, 1), UNKNOWN);
        due("letOut(2, -4)", x.letOut(2, -4), LATE);
        sameAs("a refused letOut", before, x);
        due("letOut(0, 3)", x.letOut(0, 3), 30);
        due("letOut(0, 1)", x.letOut(0, 1), LATE);
        due("letOut(2, -3)", x.letOut(2, -3), 1);
        due("letOut(2, -1)", x.letOut(2, -1), LATE);
        due("letOut(0, -9)", x.letOut(0, -9), 21);
        due("about(5)", x.about(5), 30);
        due("about(7)", x.about(7), 5);
        due("kite(0, 0)", x.kite(0, 0), 21);
    }

    private static void set() {
        heading("promise 9");
        KiteYards x = flown(THREE);
        String before = picture(x);
        due("set(0, 0)", x.set(0, 0), LATE);
        due("set(1, 1)", x.set(1, 1), LATE);
        due("set(0, 3)", x.set(0, 3), BAD);
        due("set(0, -3)", x.set(0, -3), BAD);
        due("set(3, 0)", x.set(3, 0), UNKNOWN);
        due("set(3, 3)", x.set(3, 3), UNKNOWN);
        due("set(-1, 0)", x.set(-1, 0), UNKNOWN);
        sameAs("a refused set", before, x);
        due("set(0, 2)", x.set(0, 2), 2);
        due("set(0, -2)", x.set(0, -2), 4);
        due("set(0, 1)", x.set(0, 1), 0);
        due("kite(0, 1)", x.kite(0, 1), 3);
        due("kite(2, 4)", x.kite(2, 4), 104);
        due("about(7)", x.about(7), 3);
    }

    private static void cut() {
        heading("promise 10");
        KiteYards x = flown(THREE);
        String before = picture(x);
        due("cut(3)", x.cut(3), UNKNOWN);
        due("cut(-1)", x.cut(-1), UNKNOWN);
        sameAs("a refused cut", before, x);
        due("cut(2)", x.cut(2), 2);
        due("kite(2, 0)", x.kite(2, 0), UNKNOWN);
        due("kite(1, 0)", x.kite(1, 0), 8);
        due("cut(2)", x.cut(2), UNKNOWN);
        due("cut(0)", x.cut(0), 0);
        due("about(0)", x.about(0), 0);
        due("about(5)", x.about(5), 0);
        due("about(7)", x.about(7), 2);
        due("cut(0)", x.cut(0), UNKNOWN);
    }

    private static void turn() {
        heading("promise 11");
        KiteYards x = flown(THREE);
        String before = picture(x);
        due("turn(0, 1)", x.turn(0, 1), LATE);
        due("turn(3, 1)", x.turn(3, 1), BAD);
        due("turn(-3, 1)", x.turn(-3, 1), BAD);
        due("turn(0, 3)", x.turn(0, 3), BAD);
        due("turn(0, -3)", x.turn(0, -3), BAD);
        sameAs("a refused turn", before, x);
        due("turn(0, -2)", x.turn(0, -2), 23);
        due("turn(2, -2)", x.turn(2, -2), 20);
        due("turn(1, 0)", x.turn(1, 0), 40);
        due("about(1)", x.about(1), 3);
        due("about(2)", x.about(2), 2);
        due("kite(2, 4)", x.kite(2, 4), 102);
        due("about(7)", x.about(7), 3);
    }

    private static void undo() {
        heading("promise 12");
        KiteYards x = flown(THREE);
        due("undo()", x.undo(), LATE);
        String first = picture(x);
        x.letOut(1, 4);
        x.set(2, -1);
        String second = picture(x);
        x.cut(1);
        x.turn(-1, -1);
        x.cut(0);
        due("undo()", x.undo(), 4);
        due("undo()", x.undo(), 3);
        due("undo()", x.undo(), 2);
        sameAs("undo() of cut and turn", second, x);
        due("undo()", x.undo(), 1);
        due("undo()", x.undo(), 0);
        sameAs("undo() of all", first, x);
        due("undo()", x.undo(), LATE);
        // 17 acts: the first three are forgotten.
        for (int act = 1; act <= 17; act++) {
            due("letOut(2, 1)", x.letOut(2, 1), 4 + act);
        }
        due("about(7)", x.about(7), 14);
        for (int left = 13; left >= 0; left--) {
            due("undo()", x.undo(), left);
        }
        due("kite(2, 0)", x.kite(2, 0), 7);
        due("undo()", x.undo(), LATE);
        // Far past 14, each act another one.
        for (int act = 0; act < 40; act++) {
            x.turn(act % 5 - 2, act / 5 % 5 - 2);
        }
        for (int left = 13; left >= 0; left--) {
            due("undo()", x.undo(), left);
            int act = 25 + left;
            due("about(1) back to act " + act, x.about(1), act % 5);
            due("about(2) back to act " + act, x.about(2), act / 5 % 5);
        }
    }

    private static void sees() {
        heading("promise 13");
        KiteYards x = flown(THREE);
        for (int place = -100; place <= 100; place++) {
            due("sees(" + place + ")", x.sees(place), place >= -1 && place <= 7 ? 1 : 0);
        }
        due("sees(101)", x.sees(101), BAD);
        due("sees(-101)", x.sees(-101), BAD);
        due("sees(min)", x.sees(Integer.MIN_VALUE), BAD);
        x.set(0, -2);
        // The second kite leans 2, the first one -2: it folds.
        due("sees(1)", x.sees(1), 0);
        due("sees(0), no kites", flown(NO_KITES).sees(0), 0);
        due("sees(101), no kites", flown(NO_KITES).sees(101), BAD);
        KiteYards low = flown("K22001Y323");
        due("sees(0), height 0", low.sees(0), 1);
        due("sees(1), height 0", low.sees(1), 0);
    }

    private static void cheapest() {
        heading("promise 14");
        KiteYards x = flown(THREE);
        // With the first kite 1 higher it stands at BORDER, and the last one at 4.
        int[][] wants = {{7, 0, 0}, {-1, 0, 0}, {8, 1, 1}, {-2, 1, 1}, {9, 1, 100}, {-3, 5, 23},
            {10, 5, 113}, {11, 9, 333}, {12, NONE, NONE}, {-100, NONE, NONE}, {100, NONE, NONE}};
        String before = picture(x);
        for (int[] want : wants) {
            due("cheapest(" + want[0] + ", 0)", x.cheapest(want[0], 0), want[1]);
            due("cheapest(" + want[0] + ", 1)", x.cheapest(want[0], 1), want[2]);
        }
        due("cheapest(101, 0)", x.cheapest(101, 0), BAD);
        due("cheapest(-101, 1)", x.cheapest(-101, 1), BAD);
        due("cheapest(0, 2)", x.cheapest(0, 2), BAD);
        due("cheapest(0, -1)", x.cheapest(0, -1), BAD);
        sameAs("cheapest", before, x);
        KiteYards y = flown("K22001Y120Y920");
        y.letOut(0, 9);
        y.letOut(0, 9);
        y.letOut(0, 9);
        y.letOut(1, 1);
        // 28 and 10 yards: 44 would need 3 for the first one.
        due("cheapest(10, 1)", y.cheapest(10, 1), 2);
        due("cheapest(11, 0)", y.cheapest(11, 0), NONE);
        due("cheapest(11, 1)", y.cheapest(11, 1), NONE);
        // 29 yards and 1 more are 30, which is not too many.
        KiteYards most = flown("K22001Y222");
        most.letOut(0, 9);
        most.letOut(0, 9);
        most.letOut(0, 9);
        due("cheapest(7, 0)", most.cheapest(7, 0), 1);
        due("cheapest(8, 0)", most.cheapest(8, 0), NONE);
        due("cheapest(0, 0), no kites", flown(NO_KITES).cheapest(0, 0), NONE);
        // More yards raise it over BORDER, where it does not fold.
        due("cheapest(0, 1), folding", flown("K42091Y720").cheapest(0, 1), 2);
    }

    private static void fewest() {
        heading("promise 15");
        KiteYards wide = flown("K22009Y920");
        int[][] wants = {{2, 0, 2}, {3, 1, 3}, {4, 1, 4}, {5, NONE, NONE}, {-3, 1, 0}, {-4, 1, 0}, {-5, NONE, NONE}};
        String before = picture(wide);
        for (int[] want : wants) {
            due("fewest(" + want[0] + ", 0)", wide.fewest(want[0], 0), want[1]);
            due("fewest(" + want[0] + ", 1)", wide.fewest(want[0], 1), want[2]);
        }
        due("fewest(101, 0)", wide.fewest(101, 0), BAD);
        due("fewest(-101, 0)", wide.fewest(-101, 0), BAD);
        due("fewest(0, 2)", wide.fewest(0, 2), BAD);
        due("fewest(0, -1)", wide.fewest(0, -1), BAD);
        sameAs("fewest", before, wide);
        KiteYards tight = flown("K22001Y920");
        due("fewest(4, 0), FOLD 1", tight.fewest(4, 0), NONE);
        due("fewest(-3, 1), FOLD 1", tight.fewest(-3, 1), 1);
        KiteYards two = flown("K22009Y920Y120");
        due("fewest(3, 1)", two.fewest(3, 1), 23);
        due("fewest(6, 0)", two.fewest(6, 0), 2);
        due("fewest(6, 1)", two.fewest(6, 1), 44);
        due("fewest(0, 0), no kites", flown(NO_KITES).fewest(0, 0), NONE);
        due("fewest(0, 1), no kites", flown(NO_KITES).fewest(0, 1), NONE);
        due("fewest(5, 1)", flown(THREE).fewest(5, 1), 232);
    }

    private static void whereToCut() {
        heading("promise 16");
        due("no kites", flown(NO_KITES).whereToCut(), NONE);
        due("one kite", flown("K22001Y920").whereToCut(), NONE);
        due("one that folds", flown("K22001Y940").whereToCut(), NONE);
        due("three", flown(THREE).whereToCut(), 2);
        due("five", flown(FIVE).whereToCut(), 4);
        due("the first folds", flown("K22001Y940Y940").whereToCut(), NONE);
        due("the second folds", flown("K22001Y920Y940Y940").whereToCut(), 1);
        due("the third and the fifth fold", flown("K22001Y920Y920Y940Y930Y910").whereToCut(), 2);
        due("the fifth folds", flown("K22001Y920Y920Y920Y920Y940").whereToCut(), 4);
    }

    private static void drops() {
        heading("promise 17");
        KiteYards x = flown(THREE);
        due("drops(0)", x.drops(0), 21);
        due("drops(1)", x.drops(1), 12);
        due("drops(2)", x.drops(2), 4);
        due("drops(3)", x.drops(3), UNKNOWN);
        due("drops(-1)", x.drops(-1), UNKNOWN);
        x.letOut(2, 9);
        x.cut(2);
        due("drops(0)", x.drops(0), 17);
        due("drops(2)", x.drops(2), UNKNOWN);
        due("drops(0), no kites", flown(NO_KITES).drops(0), UNKNOWN);
    }

    private static void share() {
        heading("promise 18");
        KiteYards x = flown(THREE);
        due("share(0, true)", x.share(0, true), 5);
        due("share(1, true)", x.share(1, true), 3);
        due("share(2, false)", x.share(2, false), 1);
        due("share(3, true)", x.share(3, true), UNKNOWN);
        due("share(-1, false)", x.share(-1, false), UNKNOWN);
        // Alone the first sees 5 places; with the second, that folds, nothing is seen.
        KiteYards y = flown("K22001Y920Y240");
        due("share(0, true)", y.share(0, true), 5);
        due("share(0, false)", y.share(0, false), 2);
        due("share(1, true)", y.share(1, true), -5);
        due("share(1, false)", y.share(1, false), 2);
        // All fold, alone and together.
        KiteYards z = flown("K22001Y940Y940");
        due("share(0, true)", z.share(0, true), 0);
        due("share(0, false)", z.share(0, false), 1);
        // 30 yards see 7 each way.
        KiteYards w = flown("K22001Y920");
        w.letOut(0, 9);
        w.letOut(0, 9);
        w.letOut(0, 3);
        due("share(0, true)", w.share(0, true), 15);
        KiteYards far = flown("K42009Y940");
        // It stands at 4 and sees 2 .. 6.
        due("share(0, true)", far.share(0, true), 1 + 4);
        KiteYards edge = flown("K44009Y940Y940Y940");
        // Alone 2 .. 6: 5; two at 8, height 18, see 4 .. 12: 6 of them count; three at 12, 27: 6 .. 18, 4 count.
        due("share(1, true)", edge.share(1, true), 4);
        due("share(1, false)", edge.share(1, false), 3);
        // Five that are alike but in yards: 120 orders. Heights alone 9 7 5 3 1, see 5 3 3 1 1.
        KiteYards five = flown(FIVE);
        int above = 0;
        for (int kite = 0; kite < 5; kite++) {
            above += five.share(kite, true) * 60 / five.share(kite, false);
        }
        // Together 25 high: 6 each way. The shares make up what all see.
        due("all shares", above, 13 * 60);
        // One sees 4, two see 8, three see 12, which does not count.
        KiteYards out = flown("K44009Y140Y140Y140");
        due("share(0, true)", out.share(0, true), 0);
        due("share(0, false)", out.share(0, false), 1);
        // They fly in the order of their numbers, whichever came first: leans 1 and 2 do not
        // fold, 2 and 1 would. Alone the first sees 5, the second folds; together they see 9.
        KiteYards order = flown("K22001Y930Y940");
        due("share(0, true)", order.share(0, true), 7);
        due("share(0, false)", order.share(0, false), 1);
        due("share(1, true)", order.share(1, true), 2);
    }

    private static void arrives() {
        heading("promise 19");
        KiteYards x = flown(THREE);
        // Bridles and 2: 2, 3, 2 make 7, which is 3 by 4.
        due("arrives(1, 0)", x.arrives(1, 0), 3);
        due("arrives(4, 123)", x.arrives(4, 123), 3012);
        due("arrives(4, 1111)", x.arrives(4, 1111), 0);
        due("arrives(6, 333333)", x.arrives(6, 333333), 222222);
        refusedWords(x);
        due("no kites", flown(NO_KITES).arrives(3, 12), 12);
    }

    private static void refusedWords(KiteYards x) {
        int[][] wrong = {{0, 0}, {7, 0}, {-1, 0}, {1, 4}, {1, -1}, {1, 10}, {2, 14}, {2, 41}, {6, 1000000},
            {3, 1333}, {6, 333334}, {6, Integer.MAX_VALUE}, {6, Integer.MIN_VALUE}, {Integer.MAX_VALUE, 0}};
        for (int[] row : wrong) {
            String rest = "(" + row[0] + ", " + row[1] + ")";
            due("arrives" + rest, x.arrives(row[0], row[1]), BAD);
            due("sent" + rest, x.sent(row[0], row[1]), BAD);
            due("taken" + rest, x.taken(row[0], row[1], 0), BAD);
            due("taken, the other" + rest, x.taken(row[0], 0, row[1]), BAD);
        }
    }

    private static void sent() {
        heading("promise 20");
        KiteYards x = flown(THREE);
        due("sent(1, 3)", x.sent(1, 3), 0);
        due("sent(4, 3012)", x.sent(4, 3012), 123);
        due("sent(6, 222222)", x.sent(6, 222222), 333333);
        for (int word = 0; word < 34; word++) {
            if (x.arrives(2, word) >= 0) {
                due("sent of arrives", x.sent(2, x.arrives(2, word)), word);
            }
        }
        refusedWords(x);
        due("no kites", flown(NO_KITES).sent(3, 12), 12);
        x.set(1, 0);
        due("sent(1, 0) by 6", x.sent(1, 0), 2);
    }

    private static void taken() {
        heading("promise 21");
        KiteYards x = flown(THREE);
        int[][] wants = {{3, 123, 123, 1}, {3, 123, 120, 1}, {3, 123, 121, 1}, {3, 123, 122, 1}, {3, 123, 133, 1},
            {3, 0, 300, 1}, {3, 0, 200, 1}, {3, 123, 132, 1}, {3, 123, 23, 1}, {3, 0, 330, 1}, {3, 0, 103, 1},
            {3, 0, 12, 0}, {3, 0, 22, 0}, {3, 0, 111, 0}, {3, 123, 321, 0}, {6, 0, 300003, 1}, {6, 0, 301003, 0}};
        for (int[] want : wants) {
            due("taken(" + want[0] + ", " + want[1] + ", " + want[2] + ")", x.taken(want[0], want[1], want[2]), want[3]);
            due("taken(" + want[0] + ", " + want[2] + ", " + want[1] + ")", x.taken(want[0], want[2], want[1]), want[3]);
        }
        refusedWords(x);
        KiteYards none = flown(NO_KITES);
        due("no kites, one word", none.taken(3, 12, 12), 1);
        due("no kites, two words", none.taken(3, 12, 13), 0);
        due("no kites, wrong", none.taken(3, 12, 14), BAD);
    }

    private static void seeAt() {
        heading("promise 22");
        KiteYards x = flown(THREE);
        due("seeAt(3, 0)", x.seeAt(3, 0), UNKNOWN);
        due("seeAt(-1, 31)", x.seeAt(-1, 31), UNKNOWN);
        due("seeAt(0, 31)", x.seeAt(0, 31), BAD);
        due("seeAt(0, -31)", x.seeAt(0, -31), BAD);
        due("about(8)", x.about(8), 0);
        int[] places = {30, -30, 0, 0, 1, 2};
        for (int i = 0; i < 6; i++) {
            due("seeAt(2, " + places[i] + ")", x.seeAt(2, places[i]), i + 1);
        }
        due("seeAt(2, 0)", x.seeAt(2, 0), FULL);
        due("seeAt(3, 0)", x.seeAt(3, 0), UNKNOWN);
        due("seeAt(0, 31)", x.seeAt(0, 31), BAD);
        due("about(8)", x.about(8), 6);
        due("undo(): it is no act", x.undo(), LATE);
    }

    private static void unsee() {
        heading("promise 23");
        KiteYards x = flown(THREE);
        due("unsee()", x.unsee(), 0);
        x.seeAt(0, 5);
        x.seeAt(1, 5);
        due("winds(0)", x.winds(0), 0);
        due("unsee()", x.unsee(), 2);
        due("about(8)", x.about(8), 0);
        due("winds(0)", x.winds(0), 25);
        due("unsee()", x.unsee(), 0);
        due("seeAt(0, 0)", x.seeAt(0, 0), 1);
    }

    private static void windsAre(KiteYards x, int many, int first, int low) {
        due("winds(0)", x.winds(0), many);
        due("winds(1)", x.winds(1), first);
        due("winds(2)", x.winds(2), low);
    }

    private static void winds() {
        heading("promise 24");
        KiteYards x = flown(THREE);
        windsAre(x, 25, 0, NONE);
        x.seeAt(0, 1);
        windsAre(x, 5, 30, 3);
        x.seeAt(1, 2);
        // The first leans LOW, the second HIGH and 1: 1 and 1 make 2.
        windsAre(x, 1, 32, 3);
        x.seeAt(2, 7);
        windsAre(x, 0, NONE, NONE);
        String before = picture(x);
        x.cut(2);
        windsAre(x, 1, 32, 3);
        x.cut(0);
        windsAre(x, 25, 0, NONE);
        x.undo();
        x.undo();
        sameAs("what was seen of kites that were gone", before, x);
        x.unsee();
        x.seeAt(1, 1);
        // LOW and HIGH make 0.
        windsAre(x, 5, 4, NONE);
        // Kites that fold are looked at all the same.
        KiteYards y = flown("K22501Y940");
        y.seeAt(0, 0);
        windsAre(y, 5, 0, 0);
        due("winds(3)", x.winds(3), BAD);
        due("winds(-1)", x.winds(-1), BAD);
    }

    private static void restsAre(KiteYards x, int kite, int other, int p, int q, int many, int first) {
        String rest = "(" + kite + ", " + other + ", " + p + ", " + q + ", ";
        due("rests" + rest + "0)", x.rests(kite, other, p, q, 0), many);
        due("rests" + rest + "1)", x.rests(kite, other, p, q, 1), first);
    }

    private static void rests() {
        heading("promise 25");
        KiteYards x = flown("K22001Y920Y920Y920");
        String before = picture(x);
        restsAre(x, 0, 1, 1, -1, 1, 30);
        restsAre(x, 1, 0, -1, 1, 1, 3);
        restsAre(x, 0, 2, 2, 2, 1, 42);
        restsAre(x, 0, 1, 20, 20, 1, 44);
        restsAre(x, 0, 1, -20, -20, 1, 0);
        restsAre(x, 0, 2, 0, 1, 1, 23);
        // The second one's bridle of now counts for the third.
        x.set(1, 1);
        restsAre(x, 0, 2, 0, 1, 1, 22);
        x.undo();
        sameAs("rests", before, x);
        // HIGH does not lean it, LOW does: all of the kite's bridles are its own place.
        KiteYards y = flown("K32101Y920Y920");
        restsAre(y, 0, 1, 0, 0, 1, 12);
        due("rests(3, 0, ..)", x.rests(3, 0, 0, 0, 0), UNKNOWN);
        due("rests(0, 3, ..)", x.rests(0, 3, 0, 0, 0), UNKNOWN);
        due("rests(-1, -1, ..)", x.rests(-1, -1, 0, 0, 0), UNKNOWN);
        due("rests(3, 3, 21, 0, 9)", x.rests(3, 3, 21, 0, 9), UNKNOWN);
        due("rests(1, 1, ..)", x.rests(1, 1, 0, 0, 0), BAD);
        due("rests(0, 1, 21, 0, 0)", x.rests(0, 1, 21, 0, 0), BAD);
        due("rests(0, 1, -21, 0, 0)", x.rests(0, 1, -21, 0, 0), BAD);
        due("rests(0, 1, 0, 21, 0)", x.rests(0, 1, 0, 21, 0), BAD);
        due("rests(0, 1, 0, -21, 0)", x.rests(0, 1, 0, -21, 0), BAD);
        due("rests(0, 1, 0, 0, 2)", x.rests(0, 1, 0, 0, 2), BAD);
        due("rests(0, 1, 0, 0, -1)", x.rests(0, 1, 0, 0, -1), BAD);
    }

    private static void gustsAre(KiteYards x, int a, int b, int above, int below) {
        due("gusts(" + a + ", " + b + ", true)", x.gusts(a, b, true), above);
        due("gusts(" + a + ", " + b + ", false)", x.gusts(a, b, false), below);
    }

    private static void gusts() {
        heading("promise 26");
        // It leans 1 in LOW, with a gust 2, which folds.
        KiteYards x = flown("K22501Y930");
        String before = picture(x);
        gustsAre(x, 3, 4, 7, 10);
        gustsAre(x, 0, 10, 1, 1);
        gustsAre(x, 10, 0, 0, 1);
        gustsAre(x, 5, 0, 1, 2);
        sameAs("gusts", before, x);
        // The second leans 2 in HIGH: it folds, but if a gust comes low and none high.
        KiteYards y = flown("K22101Y920Y940");
        gustsAre(y, 3, 4, 9, 50);
        gustsAre(y, 10, 0, 1, 1);
        gustsAre(y, 0, 0, 0, 1);
        // The other way round: low none and high one.
        KiteYards z = flown("K22101Y920Y900");
        gustsAre(z, 3, 4, 7, 25);
        // LOW 2 becomes 3.
        KiteYards w = flown("K42502Y920");
        gustsAre(w, 10, 0, 0, 1);
        gustsAre(w, 1, 0, 9, 10);
        // Leans 0 and 3: by FOLD 2 calm just with a gust low and none high,
        // by FOLD 3 always but with a gust high and none low.
        KiteYards v = flown("K23102Y920Y940");
        gustsAre(v, 0, 0, 0, 1);
        gustsAre(v, 10, 0, 1, 1);
        gustsAre(v, 10, 10, 0, 1);
        KiteYards u = flown("K23103Y920Y940");
        gustsAre(u, 0, 10, 0, 1);
        gustsAre(u, 10, 10, 1, 1);
        gustsAre(u, 2, 5, 3, 5);
        gustsAre(flown("K22001Y920"), 0, 10, 1, 1);
        gustsAre(flown(NO_KITES), 10, 5, 1, 1);
        due("gusts(11, 0)", x.gusts(11, 0, true), BAD);
        due("gusts(-1, 0)", x.gusts(-1, 0, true), BAD);
        due("gusts(0, 11)", x.gusts(0, 11, false), BAD);
        due("gusts(0, -1)", x.gusts(0, -1, false), BAD);
    }

    private static void seed() {
        heading("promise 27");
        KiteYards x = flown(THREE);
        due("seed(max)", x.seed(Long.MAX_VALUE), 0);
        due("seed(min)", x.seed(Long.MIN_VALUE), Long.MAX_VALUE);
        due("seed(5)", x.seed(5L), Long.MIN_VALUE);
        x.cut(0);
        x.undo();
        due("seed(5)", x.seed(5L), 5);
        due("seed(0)", x.seed(0L), 5);
        due("undo(): it is no act", x.undo(), LATE);
    }

    private static void afternoons() {
        heading("promise 28");
        KiteYards x = flown("K22501Y920Y920");
        String before = picture(x);
        long seed = 0L;
        int folded = 0;
        for (int time = 0; time < 30; time++) {
            seed = seed * 6364136223846793005L + 1442695040888963407L;
            int low = (int) ((seed >>> 33) % 25) / 5 - 2;
            folded += Math.abs(low) > 1 ? 1 : 0;
        }
        due("afternoons(30)", x.afternoons(30), folded);
        due("seed(0)", x.seed(0L), seed);
        due("one by one", eachAlone(x), folded);
        due("seed(0)", x.seed(0L), seed);
        sameAs("afternoons", before, x);
        due("afternoons(0)", x.afternoons(0), BAD);
        due("afternoons(31)", x.afternoons(31), BAD);
        due("afternoons(min)", x.afternoons(Integer.MIN_VALUE), BAD);
        due("seed(0), refused", x.seed(0L), 0);
        // In HIGH alone.
        KiteYards high = flown("K22001Y920");
        long from = seed;
        int foldedHigh = 0;
        for (int time = 0; time < 30; time++) {
            from = from * 6364136223846793005L + 1442695040888963407L;
            foldedHigh += Math.abs((int) ((from >>> 33) % 25) % 5 - 2) > 1 ? 1 : 0;
        }
        high.seed(seed);
        due("afternoons(30) in HIGH", high.afternoons(30), foldedHigh);
        // Where the sign counts: only HIGH 2 and its bridle 1 fold.
        KiteYards sign = flown("K22002Y930");
        from = seed;
        int foldedSign = 0;
        for (int time = 0; time < 30; time++) {
            from = from * 6364136223846793005L + 1442695040888963407L;
            foldedSign += (int) ((from >>> 33) % 25) % 5 == 4 ? 1 : 0;
        }
        sign.seed(seed);
        due("afternoons(30) by sign", sign.afternoons(30), foldedSign);
        KiteYards none = flown(NO_KITES);
        due("no kites", none.afternoons(1), 0);
        due("seed(0), no kites", none.seed(0L), 1442695040888963407L);
        KiteYards told = flown("K04123Y943Y133Y333Y813");
        told.seed(9L);
        due("afternoons(30)", told.afternoons(30), 6);
    }

    private static int eachAlone(KiteYards x) {
        int folded = 0;
        for (int time = 0; time < 30; time++) {
            folded += x.afternoons(1);
        }
        return folded;
    }

    private static void keep() {
        heading("promise 29");
        KiteYards x = flown(THREE);
        due("keep(2)", x.keep(2), UNKNOWN);
        due("keep(-1)", x.keep(-1), UNKNOWN);
        x.letOut(0, 1);
        due("keep(0)", x.keep(0), 3);
        due("about(7)", x.about(7), 1);
        due("again(1)", x.again(1), LATE);
        x.cut(1);
        due("keep(1)", x.keep(1), 1);
        due("undo()", x.undo(), 1);
        due("again(1)", x.again(1), 1);
        due("again(0)", x.again(0), 3);
        x.cut(0);
        due("keep(0), anew", x.keep(0), 0);
        x.undo();
        due("again(0)", x.again(0), 0);
        due("about(0)", x.about(0), 0);
    }

    private static void again() {
        heading("promise 30");
        KiteYards x = flown(THREE);
        due("again(0)", x.again(0), LATE);
        due("again(2)", x.again(2), UNKNOWN);
        due("again(-1)", x.again(-1), UNKNOWN);
        String before = picture(x);
        x.keep(1);
        x.turn(1, 1);
        x.set(2, 2);
        x.letOut(1, 9);
        x.cut(2);
        x.seed(4L);
        due("again(0)", x.again(0), LATE);
        due("about(7)", x.about(7), 4);
        due("again(1)", x.again(1), 3);
        sameAs("again: all as it was kept", before, x);
        due("undo()", x.undo(), LATE);
        due("seed(0)", x.seed(0L), 4);
        x.letOut(0, 1);
        x.seeAt(0, 5);
        due("again(1), once more", x.again(1), 3);
        due("kite(0, 0)", x.kite(0, 0), 9);
        due("about(8)", x.about(8), 1);
        due("about(3)", x.about(3), 10);
    }
}
