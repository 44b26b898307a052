import java.util.function.Supplier;
import java.util.function.ToLongFunction;

/** Part 4 of the terms: which refusal comes, what it leaves, and how answers are told. */
public final class RefusalEdgeTest extends TestBase {
    private static final int[] EXTREMES = {Integer.MIN_VALUE, Integer.MIN_VALUE + 1, -1000000, 1000000,
        Integer.MAX_VALUE - 1, Integer.MAX_VALUE};

    public static void main(String[] args) {
        constants();
        whatIsToldFirst();
        refusedOfRich();
        refusedOfNew();
        refusedWhereItIsFull();
        refusedWhereItIsLate();
        extremesAreRefused();
        placesAreTold100More();
        windsAndBridlesAreTold2More();
        fractionsAreToldAboveAndBelow();
        usedFor512Calls();
        end();
    }

    private static void constants() {
        heading("UNKNOWN -1, BAD -2, LATE -3, FULL -4; NONE is -9");
        due("UNKNOWN", KiteYards.UNKNOWN, -1);
        due("BAD", KiteYards.BAD, -2);
        due("LATE", KiteYards.LATE, -3);
        due("FULL", KiteYards.FULL, -4);
        due("NONE", KiteYards.NONE, -9);
    }

    private static KiteYards full() {
        KiteYards x = rich();
        for (int many = 2; many < 6; many++) {
            x.seeAt(2, many);
        }
        while (x.about(9) < 32) {
            x.write('Y');
        }
        return x;
    }

    private static void whatIsToldFirst() {
        heading("Of several what is told first");
        KiteYards x = full();
        due("write(256) of a full text: BAD, FULL", x.write(256), BAD);
        due("write(0) of a full text", x.write(0), FULL);
        due("kite(3, 6): UNKNOWN; BAD", x.kite(3, 6), UNKNOWN);
        due("letOut(3, 0): UNKNOWN; BAD", x.letOut(3, 0), UNKNOWN);
        due("letOut(0, 30): BAD; LATE", x.letOut(0, 30), BAD);
        due("letOut(2, -10): BAD; LATE", x.letOut(2, -10), BAD);
        due("set(3, 3): UNKNOWN; BAD", x.set(3, 3), UNKNOWN);
        due("set(-1, -3): UNKNOWN; BAD", x.set(-1, -3), UNKNOWN);
        due("seeAt(3, 31): UNKNOWN; BAD; FULL", x.seeAt(3, 31), UNKNOWN);
        due("seeAt(3, 0): UNKNOWN; FULL", x.seeAt(3, 0), UNKNOWN);
        due("seeAt(0, 31): BAD; FULL", x.seeAt(0, 31), BAD);
        due("seeAt(0, 0)", x.seeAt(0, 0), FULL);
        due("rests(3, 3, 21, 21, 2): UNKNOWN; BAD", x.rests(3, 3, 21, 21, 2), UNKNOWN);
        due("rests(0, 3, 21, 21, 2): UNKNOWN; BAD", x.rests(0, 3, 21, 21, 2), UNKNOWN);
        due("rests(0, 0, 21, 21, 2)", x.rests(0, 0, 21, 21, 2), BAD);
        due("cheapest(100, 2): BAD, though NONE", x.cheapest(100, 2), BAD);
        due("fewest(100, 2): BAD, though NONE", x.fewest(100, 2), BAD);
        KiteYards late = flown(THREE);
        due("again(2): UNKNOWN; LATE", late.again(2), UNKNOWN);
        due("again(-1): UNKNOWN; LATE", late.again(-1), UNKNOWN);
        due("winds(3)", late.winds(3), BAD);
        due("turn(0, 3)", late.turn(0, 3), BAD);
    }

    private static void refused(Supplier<KiteYards> made, String call, ToLongFunction<KiteYards> asked, int due) {
        KiteYards x = made.get();
        due(call, asked.applyAsLong(x), due);
        holds(call + " changes nothing", everything(x).equals(everything(made.get())));
    }

    private static void rich(String call, ToLongFunction<KiteYards> asked, int due) {
        refused(TestBase::rich, call, asked, due);
    }

    private static void refusedOfRich() {
        heading("What is refused changes nothing");
        rich("write(-1)", x -> x.write(-1), BAD);
        rich("write(256)", x -> x.write(256), BAD);
        rich("about(10)", x -> x.about(10), BAD);
        rich("kite(3, 0)", x -> x.kite(3, 0), UNKNOWN);
        rich("kite(0, 6)", x -> x.kite(0, 6), BAD);
        rich("letOut(3, 1)", x -> x.letOut(3, 1), UNKNOWN);
        rich("letOut(0, 0)", x -> x.letOut(0, 0), BAD);
        rich("letOut(0, 10)", x -> x.letOut(0, 10), BAD);
        rich("letOut(2, -9)", x -> x.letOut(2, -9), LATE);
        rich("letOut(2, -4)", x -> x.letOut(2, -4), LATE);
        rich("set(3, 0)", x -> x.set(3, 0), UNKNOWN);
        rich("set(0, 3)", x -> x.set(0, 3), BAD);
        rich("set(1, -1)", x -> x.set(1, -1), LATE);
        rich("cut(3)", x -> x.cut(3), UNKNOWN);
        rich("cut(-1)", x -> x.cut(-1), UNKNOWN);
        rich("turn(3, 0)", x -> x.turn(3, 0), BAD);
        rich("turn(0, -3)", x -> x.turn(0, -3), BAD);
        rich("turn(1, 0)", x -> x.turn(1, 0), LATE);
        rich("sees(101)", x -> x.sees(101), BAD);
        rich("cheapest(101, 0)", x -> x.cheapest(101, 0), BAD);
        rich("fewest(0, 2)", x -> x.fewest(0, 2), BAD);
        rich("drops(3)", x -> x.drops(3), UNKNOWN);
        rich("share(3, true)", x -> x.share(3, true), UNKNOWN);
        rich("arrives(0, 0)", x -> x.arrives(0, 0), BAD);
        rich("sent(1, 4)", x -> x.sent(1, 4), BAD);
        rich("taken(1, 0, 4)", x -> x.taken(1, 0, 4), BAD);
        rich("seeAt(3, 0)", x -> x.seeAt(3, 0), UNKNOWN);
        rich("seeAt(0, 31)", x -> x.seeAt(0, 31), BAD);
        rich("winds(3)", x -> x.winds(3), BAD);
        rich("rests(0, 3, 0, 0, 0)", x -> x.rests(0, 3, 0, 0, 0), UNKNOWN);
        rich("rests(0, 0, 0, 0, 0)", x -> x.rests(0, 0, 0, 0, 0), BAD);
        rich("rests(0, 1, 21, 0, 0)", x -> x.rests(0, 1, 21, 0, 0), BAD);
        rich("gusts(11, 0, true)", x -> x.gusts(11, 0, true), BAD);
        rich("afternoons(0)", x -> x.afternoons(0), BAD);
        rich("afternoons(31)", x -> x.afternoons(31), BAD);
        rich("keep(2)", x -> x.keep(2), UNKNOWN);
        rich("again(-1)", x -> x.again(-1), UNKNOWN);
    }

    private static void fresh(String call, ToLongFunction<KiteYards> asked, int due) {
        refused(KiteYards::new, call, asked, due);
    }

    private static void refusedOfNew() {
        heading("What is refused changes nothing, there being nothing yet");
        fresh("fly()", x -> x.fly(), LATE);
        fresh("kite(0, 0)", x -> x.kite(0, 0), UNKNOWN);
        fresh("letOut(0, 1)", x -> x.letOut(0, 1), UNKNOWN);
        fresh("set(0, 1)", x -> x.set(0, 1), UNKNOWN);
        fresh("cut(0)", x -> x.cut(0), UNKNOWN);
        fresh("turn(0, 0)", x -> x.turn(0, 0), LATE);
        fresh("undo()", x -> x.undo(), LATE);
        fresh("drops(0)", x -> x.drops(0), UNKNOWN);
        fresh("share(0, false)", x -> x.share(0, false), UNKNOWN);
        fresh("seeAt(0, 0)", x -> x.seeAt(0, 0), UNKNOWN);
        fresh("rests(0, 1, 0, 0, 0)", x -> x.rests(0, 1, 0, 0, 0), UNKNOWN);
        fresh("again(0)", x -> x.again(0), LATE);
        fresh("again(1)", x -> x.again(1), LATE);
        fresh("again(2)", x -> x.again(2), UNKNOWN);
    }

    private static void refusedWhereItIsFull() {
        heading("What is refused changes nothing, there being no room");
        refused(RefusalEdgeTest::full, "write(75)", x -> x.write('K'), FULL);
        refused(RefusalEdgeTest::full, "write(-1)", x -> x.write(-1), BAD);
        refused(RefusalEdgeTest::full, "seeAt(0, 9)", x -> x.seeAt(0, 9), FULL);
        refused(RefusalEdgeTest::full, "seeAt(0, 31)", x -> x.seeAt(0, 31), BAD);
        // The text has a fault here.
        refused(RefusalEdgeTest::full, "fly()", x -> x.fly(), LATE);
    }

    private static KiteYards gone() {
        KiteYards x = flown(THREE);
        x.letOut(0, 9);
        x.keep(1);
        x.again(1);
        x.letOut(1, 9);
        x.letOut(1, 9);
        x.cut(2);
        x.seeAt(1, 2);
        return x;
    }

    private static void refusedWhereItIsLate() {
        heading("What is refused changes nothing, it being too late");
        refused(RefusalEdgeTest::gone, "again(0)", x -> x.again(0), LATE);
        refused(RefusalEdgeTest::gone, "letOut(1, 5)", x -> x.letOut(1, 5), LATE);
        refused(RefusalEdgeTest::gone, "set(1, 1)", x -> x.set(1, 1), LATE);
        refused(RefusalEdgeTest::gone, "cut(2)", x -> x.cut(2), UNKNOWN);
        refused(RefusalEdgeTest::gone, "turn(0, 1)", x -> x.turn(0, 1), LATE);
        refused(() -> flown(THREE), "undo()", x -> x.undo(), LATE);
    }

    private static void extremesAreRefused() {
        heading("wrong numbers as far off as can be");
        KiteYards x = flown(THREE);
        String before = picture(x);
        for (int far : EXTREMES) {
            String at = "(.. " + far + " ..)";
            due("write" + at, x.write(far), BAD);
            due("about" + at, x.about(far), BAD);
            due("kite" + at, x.kite(far, 0), UNKNOWN);
            due("kite, what" + at, x.kite(0, far), BAD);
            due("letOut" + at, x.letOut(far, 1), UNKNOWN);
            due("letOut, d" + at, x.letOut(0, far), BAD);
            due("set" + at, x.set(far, 1), UNKNOWN);
            due("set, bridle" + at, x.set(0, far), BAD);
            due("cut" + at, x.cut(far), UNKNOWN);
            due("turn, low" + at, x.turn(far, 0), BAD);
            due("turn, high" + at, x.turn(0, far), BAD);
            due("sees" + at, x.sees(far), BAD);
            due("cheapest" + at, x.cheapest(far, 0), BAD);
            due("cheapest, what" + at, x.cheapest(0, far), BAD);
            due("fewest" + at, x.fewest(far, 0), BAD);
            due("fewest, what" + at, x.fewest(0, far), BAD);
            due("drops" + at, x.drops(far), UNKNOWN);
            due("share" + at, x.share(far, true), UNKNOWN);
            due("arrives, n" + at, x.arrives(far, 0), BAD);
            due("arrives, word" + at, x.arrives(6, far), BAD);
            due("sent, n" + at, x.sent(far, 0), BAD);
            due("sent, word" + at, x.sent(6, far), BAD);
            due("taken, n" + at, x.taken(far, 0, 0), BAD);
            due("taken, word" + at, x.taken(6, far, 0), BAD);
            due("taken, other" + at, x.taken(6, 0, far), BAD);
            due("seeAt" + at, x.seeAt(far, 0), UNKNOWN);
            due("seeAt, place" + at, x.seeAt(0, far), BAD);
            due("winds" + at, x.winds(far), BAD);
            due("rests, kite" + at, x.rests(far, 1, 0, 0, 0), UNKNOWN);
            due("rests, other" + at, x.rests(0, far, 0, 0, 0), UNKNOWN);
            due("rests, p" + at, x.rests(0, 1, far, 0, 0), BAD);
            due("rests, q" + at, x.rests(0, 1, 0, far, 0), BAD);
            due("rests, what" + at, x.rests(0, 1, 0, 0, far), BAD);
            due("gusts, x" + at, x.gusts(far, 0, true), BAD);
            due("gusts, y" + at, x.gusts(0, far, true), BAD);
            due("afternoons" + at, x.afternoons(far), BAD);
            due("keep" + at, x.keep(far), UNKNOWN);
            due("again" + at, x.again(far), UNKNOWN);
        }
        sameAs("all that", before, x);
    }

    private static void placesAreTold100More() {
        heading("What is told of PLACES is 100 more");
        KiteYards right = flown("K44009Y940Y940Y940Y940Y940");
        KiteYards left = flown("K00009Y900Y900Y900Y900Y900");
        for (int kite = 0; kite < 5; kite++) {
            due("kite(" + kite + ", 4)", right.kite(kite, 4), 104 + 4 * kite);
            due("kite(" + kite + ", 4)", left.kite(kite, 4), 96 - 4 * kite);
        }
        // What is asked of PLACES is told as it is.
        due("sees(20)", right.sees(20), 1);
        due("sees(-20)", left.sees(-20), 1);
        due("sees(80)", left.sees(80), 0);
    }

    private static void windsAndBridlesAreTold2More() {
        heading("What is told .. of winds, BRIDLES 2 more");
        KiteYards x = flown("K04009Y900Y940");
        due("about(1)", x.about(1), 0);
        due("about(2)", x.about(2), 4);
        due("kite(0, 1)", x.kite(0, 1), 0);
        due("kite(1, 1)", x.kite(1, 1), 4);
        due("set(0, 2)", x.set(0, 2), 0);
        due("set(1, -2)", x.set(1, -2), 4);
        due("turn(2, -2)", x.turn(2, -2), 4);
        due("turn(-2, -2)", x.turn(-2, -2), 40);
        due("turn(0, 0)", x.turn(0, 0), 0);
        due("turn(2, 2)", x.turn(2, 2), 22);
        due("turn(0, 0)", x.turn(0, 0), 44);
    }

    private static void fractionsAreToldAboveAndBelow() {
        heading("FRACTIONS are told above (upper = true), below, in least terms");
        KiteYards x = flown("K22501Y930");
        due("gusts(4, 0, true)", x.gusts(4, 0, true), 3);
        due("gusts(4, 0, false)", x.gusts(4, 0, false), 5);
        due("gusts(10, 0, true)", x.gusts(10, 0, true), 0);
        due("gusts(10, 0, false)", x.gusts(10, 0, false), 1);
        due("gusts(0, 0, true)", x.gusts(0, 0, true), 1);
        due("gusts(0, 0, false)", x.gusts(0, 0, false), 1);
        KiteYards y = flown("K22001Y920Y240");
        due("share(1, true)", y.share(1, true), -5);
        due("share(1, false)", y.share(1, false), 2);
    }

    private static void usedFor512Calls() {
        heading("An object is used for at most 512 calls");
        KiteYards x = flown(FIVE);
        // 28 calls are done; 480 more are acts and the dearest questions.
        for (int round = 0; round < 160; round++) {
            boolean there = round / 5 % 2 == 0;
            due("set in round " + round, x.set(round % 5, there ? 2 : 0), there ? 2 : 4);
            due("cheapest in round " + round, x.cheapest(-100, round % 2), NONE);
            due("fewest in round " + round, x.fewest(100, round % 2), NONE);
        }
        due("about(7)", x.about(7), 14);
        due("undo()", x.undo(), 13);
        due("kite(4, 1), the 511th", x.kite(4, 1), 4);
        due("sees(8), the 512th", x.sees(8), 1);
    }
}
