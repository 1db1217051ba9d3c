import java.util.function.IntUnaryOperator;

/** Promises 6 to 10, 33 to 38 and 56: the classes, their fractions, their units, the units' powers. */
final class EdgesOfClasses {
    private static final int NONE = Sentences.NONE;
    private static final int NO_LEAVES = -1000000;
    private static final int LEAST = Sentences.LEAST;
    private static final int MOST = Sentences.MOST;
    /** 2, 3, 5: seven classes, of 1, 3, 5, 6, 10, 15, 30; that of 5 has D 10 and the unit 19, 6. */
    private static final int THREE = 7;
    private static final int CLASSES = 7;
    private static final int[] NO_CLASSES = {CLASSES, CLASSES + 1, -1, -2, 256, 1 << 30, LEAST, LEAST + 1, MOST};
    /** 2, 11, 13, 17: class 14 has D 9724, a round of 48 steps and a unit of 23 digits. */
    private static final int GREAT = 113;
    private static final int[] NO_MODULI = {1, 0, -1, -2, 10001, LEAST, MOST};
    private static final int[] PRIMES = {2, 3, 5, 7, 11, 13, 17, 19, 23, 29, 31, 37, 41, 43, 47, 53, 59, 61, 67, 71, 73, 79,
        83, 89, 97};

    static void test(Sentences doc) {
        of(doc);
        ofLengths(doc);
        step(doc);
        unit(doc);
        power(doc);
        powerLong(doc);
        witness(doc);
        entry(doc);
        leaves(doc);
        nearing(doc);
        middle(doc);
        least(doc);
        leastOfOthers(doc);
        half(doc);
    }

    private static IntUnaryOperator ofEach(SmoothNeighbours x, int what) {
        return k -> x.of(k, what);
    }

    private static IntUnaryOperator ofOne(SmoothNeighbours x, int k) {
        return what -> x.of(k, what);
    }

    private static IntUnaryOperator steps(SmoothNeighbours x, int k) {
        return steps -> x.step(k, steps);
    }

    private static IntUnaryOperator beginnings(SmoothNeighbours x) {
        return k -> x.step(k, 0);
    }

    private static void of(Sentences doc) {
        SmoothNeighbours x = doc.test(6, "Of a CLASS: 0 q,", 31);
        doc.due("of(0, 0)", x.of(0, 0), 1);
        doc.due("of(30, 0), the last class", x.of(30, 0), 2310);
        doc.due("of(0, 0) without primes", Sentences.of(0).of(0, 0), 1);
        doc.due("of(31, 0) of the greatest five", Sentences.of(124).of(31, 0), 85085);
        x = doc.test(6, "1 D,", 124);
        doc.due("of(0, 1)", x.of(0, 1), 2);
        doc.due("of(31, 1)", x.of(31, 1), 170170);
        x = doc.test(6, "2 a0,", 124);
        doc.due("of(0, 2)", x.of(0, 2), 1);
        doc.due("of(31, 2)", x.of(31, 2), 412);
        x = doc.test(6, "3 ROUND,", GREAT);
        doc.due("of(0, 3), one step", x.of(0, 3), 1);
        doc.due("of(14, 3)", x.of(14, 3), 48);
        x = doc.test(6, "4 NEGATIVE (1, 0),", THREE);
        doc.row("NEGATIVE", ofEach(x, 4), 1, 0, 1, 0, 0, 0, 0);
        x = doc.test(6, "5 how many PAIRS come of it,", THREE);
        doc.row("PAIRS", ofEach(x, 5), 2, 2, 1, 1, 2, 1, 1);
        doc.due("of(0, 5) without primes", Sentences.of(0).of(0, 5), 0);
        doc.due("of(1, 5) of 2, 13", Sentences.of(33).of(1, 5), 0);
        x = doc.test(6, "8 its INDEXES with a PAIR as bits (INDEX 1 the lowest).", 31);
        doc.due("of(0, 8): 1, 2, 3 and 6, the BOUND", x.of(0, 8), 39);
        doc.due("of(0, 8) without primes", Sentences.of(0).of(0, 8), 0);
        doc.due("of(0, 8) of 2, 3, 7, 13, 17: 1, 2 and 4", Sentences.of(107).of(0, 8), 11);
        x = doc.test(6, "NONE for others.", THREE);
        for (int what = 0; what <= 8; what++) {
            doc.dueForAll("a class of what " + what, NO_CLASSES, ofEach(x, what), NONE);
        }
        x = doc.test(6, "NONE for others.", THREE);
        for (int k = 0; k < CLASSES; k++) {
            doc.dueForAll("what of class " + k, new int[] {9, 10, -1, -2, 256, LEAST, MOST}, ofOne(x, k), NONE);
        }
        doc.due("of(1, 0) without primes", Sentences.of(0).of(1, 0), NONE);
    }

    private static void ofLengths(Sentences doc) {
        SmoothNeighbours x = doc.test(6, "6 LENGTH of x,", THREE);
        doc.due("of(4, 6): 9", x.of(4, 6), 1);
        doc.due("of(5, 6): 11", x.of(5, 6), 2);
        doc.due("of(14, 6) of 2, 11, 13, 17", Sentences.of(GREAT).of(14, 6), 23);
        x = doc.test(6, "7 LENGTH of y,", THREE);
        doc.due("of(6, 7): 4", x.of(6, 7), 1);
        doc.due("of(3, 7) of 5, 13: 570", Sentences.of(36).of(3, 7), 3);
        doc.due("of(14, 7) of 2, 11, 13, 17", Sentences.of(GREAT).of(14, 7), 21);
    }

    private static void step(Sentences doc) {
        SmoothNeighbours x = doc.test(7, "The a behind k steps of THE FRACTION of a CLASS (0: a0;", THREE);
        doc.row("step(6, k)", steps(x, 6), 7, 1, 2, 1, 14, 1, 2, 1, 14);
        doc.row("step(0, k)", steps(x, 0), 1, 2, 2);
        x = doc.test(7, "up to 2 ROUNDS).", GREAT);
        doc.due("step(14, 48)", x.step(14, 48), 196);
        doc.due("step(14, 95)", x.step(14, 95), 1);
        doc.due("step(14, 96)", x.step(14, 96), 196);
        doc.due("step(14, 97)", x.step(14, 97), NONE);
        doc.due("step(0, 3)", x.step(0, 3), NONE);
        x = doc.test(7, "NONE for others.", THREE);
        doc.dueForAll("step(6, k)", new int[] {9, 10, -1, -4, LEAST, MOST}, steps(x, 6), NONE);
        doc.dueForAll("step(c, 0)", NO_CLASSES, beginnings(x), NONE);
    }

    private static void unit(Sentences doc) {
        SmoothNeighbours x = doc.test(8, "Digit k of x (what 0),", THREE);
        doc.digits("unit(2, 0, k)", "19", k -> x.unit(2, 0, k));
        SmoothNeighbours y = doc.test(8, "y (1) of THE UNIT of a CLASS.", THREE);
        doc.digits("unit(2, 1, k)", "6", k -> y.unit(2, 1, k));
        SmoothNeighbours z = doc.test(8, "NONE: there is none,", GREAT);
        doc.digits("unit(14, 0, k)", "71564033179137291313951", k -> z.unit(14, 0, k));
        doc.digits("unit(14, 1, k)", "725725416517444462860", k -> z.unit(14, 1, k));
        SmoothNeighbours others = doc.test(8, "and for others.", THREE);
        doc.dueForAll("unit(2, what, 0)", new int[] {2, 3, -1, 256, LEAST, MOST}, what -> others.unit(2, what, 0), NONE);
        doc.dueForAll("unit(c, 0, 0)", NO_CLASSES, k -> others.unit(k, 0, 0), NONE);
        doc.dueForAll("unit(c, 1, 0)", NO_CLASSES, k -> others.unit(k, 1, 0), NONE);
    }

    private static void power(Sentences doc) {
        SmoothNeighbours x = doc.test(9, "x(i) mod m (i 0 .. 60,");
        doc.row("power(0, i, 10000)", i -> x.power(0, i, 10000), 1, 3, 17, 99, 577, 3363, 9601);
        doc.due("power(0, 59, 10000)", x.power(0, 59, 10000), 5603);
        doc.due("power(0, 60, 9999)", x.power(0, 60, 9999), 3763);
        doc.due("power(0, 61, 9999)", x.power(0, 61, 9999), NONE);
        SmoothNeighbours y = doc.test(9, "m 2 .. 10000) of a CLASS.");
        doc.due("power(0, 0, 2)", y.power(0, 0, 2), 1);
        doc.due("power(0, 2, 2)", y.power(0, 2, 2), 1);
        doc.due("power(0, 1, 3), nothing left", y.power(0, 1, 3), 0);
        doc.due("power(0, 60, 10000)", y.power(0, 60, 10000), 1);
        doc.due("power(0, 0, 10000)", y.power(0, 0, 10000), 1);
        SmoothNeighbours z = doc.test(9, "NONE for others.", THREE);
        doc.dueForAll("power(0, i, 10)", new int[] {61, 62, -1, -60, LEAST, MOST}, i -> z.power(0, i, 10), NONE);
        doc.dueForAll("power(0, 1, m)", NO_MODULI, m -> z.power(0, 1, m), NONE);
        doc.dueForAll("power(0, 0, m)", NO_MODULI, m -> z.power(0, 0, m), NONE);
        doc.dueForAll("power(c, 1, 10)", NO_CLASSES, k -> z.power(k, 1, 10), NONE);
    }

    private static void powerLong(Sentences doc) {
        SmoothNeighbours x = doc.test(10, "LENGTH of x(i) (i 0 .. BOUND) of a CLASS.", GREAT);
        doc.row("powerLong(14, i)", i -> x.powerLong(14, i), 1, 23, 47, 70, 93, 116, 139, 162, 185, 209, NONE);
        SmoothNeighbours y = doc.test(10, "(i 0 .. BOUND)");
        doc.row("powerLong(0, i) of 2, 3", i -> y.powerLong(0, i), 1, 1, 2, 2, NONE);
        y.add(7);
        doc.row("powerLong(0, i) of 2, 3, 7", i -> y.powerLong(0, i), 1, 1, 2, 2, 3, NONE);
        y.drop(7);
        doc.due("powerLong(0, 4) of 2, 3 again", y.powerLong(0, 4), NONE);
        doc.row("powerLong(0, i) without primes", i -> Sentences.of(0).powerLong(0, i), 1, 1, 2, 2, NONE);
        SmoothNeighbours z = doc.test(10, "NONE for others.", THREE);
        doc.dueForAll("powerLong(0, i)", new int[] {4, 9, 10, -1, LEAST, MOST}, i -> z.powerLong(0, i), NONE);
        doc.dueForAll("powerLong(c, 1)", NO_CLASSES, k -> z.powerLong(k, 1), NONE);
        doc.dueForAll("powerLong(c, 0)", NO_CLASSES, k -> z.powerLong(k, 0), NONE);
    }

    private static void witness(Sentences doc) {
        SmoothNeighbours x = doc.test(33, "WITNESS.");
        doc.row("witness(0, i) of 2, 3", i -> x.witness(0, i), NONE, 0, 0, 5, NONE);
        x.add(5);
        doc.row("witness(0, i) of 2, 3, 5", i -> x.witness(0, i), NONE, 0, 0, 7, NONE);
        x.add(7);
        doc.row("witness(0, i) of 2, 3, 5, 7", i -> x.witness(0, i), NONE, 0, 0, 0, 17, NONE);
        x.choose(0);
        doc.row("witness(0, i) without primes", i -> x.witness(0, i), NONE, 2, 2, 2, NONE);
        SmoothNeighbours far = doc.test(33, "WITNESS.", 79);
        doc.row("witness(19, i) of 119, up to 40 digits", i -> far.witness(19, i), NONE, 0, 107, 311, 107, 241, 11, 911, 31, 73);
        doc.row("witness(20, i) of 170, up to 52 digits", i -> far.witness(20, i), NONE, 41, 11, 19, 11, 29, 11, 13, 11, 19);
        SmoothNeighbours longOne = doc.test(33, "WITNESS.", 55);
        doc.row("witness(28, i) of 1430, up to 73 digits", i -> longOne.witness(28, i), NONE, 23, 23, 7, 17, 19, 7, 23, NONE);
        longOne.choose(115);
        doc.row("witness(24, i) of 858", i -> longOne.witness(24, i), NONE, 7, 5, 7, 5, 7, 5, 7, 5, 7, NONE);
        SmoothNeighbours y = doc.test(33, "NONE for others.", THREE);
        doc.dueForAll("witness(0, i)", new int[] {0, -1, 4, 9, 10, LEAST, MOST}, i -> y.witness(0, i), NONE);
        doc.dueForAll("witness(c, 1)", NO_CLASSES, k -> y.witness(k, 1), NONE);
    }

    /** The ENTRY of a prime up to 97 is never above 49, in no class: that there is none up to 200 can't come. */
    private static void entry(Sentences doc) {
        int[] ofTwo = {1, 2, 3, 3, 6, 7, 4, 10, 11, 5, 15, 19, 5, 22, 23, 27, 10, 31, 34, 35, 18, 13, 42, 22, 24};
        SmoothNeighbours x = doc.test(34, "ENTRY, up to 200.");
        for (int k = 0; k < PRIMES.length; k++) {
            doc.due("entry(0, " + PRIMES[k] + ")", x.entry(0, PRIMES[k]), ofTwo[k]);
        }
        doc.due("entry of 97 and 17017, the latest", Sentences.of(120).entry(15, 97), 49);
        for (int bits : Sentences.allSets()) {
            int late = 0;
            SmoothNeighbours y = doc.test(34, "NONE: there is none up to it,", bits);
            for (int k = 0; k < y.is(2); k++) {
                SmoothNeighbours z = Sentences.of(bits);
                for (int prime : PRIMES) {
                    late += z.entry(k, prime) < 1 || z.entry(k, prime) > 49 ? 1 : 0;
                }
            }
            doc.due("entries above 49 of " + bits, late, 0);
        }
        SmoothNeighbours y = doc.test(34, "the number is no prime from 2 to 97,");
        doc.dueForAll("entry(0, n)", new int[] {1, 0, -1, -2, -3, -97, 4, 9, 49, 91, 95, 96, 98, 99, 100, 101, 103, 197, 997,
            2 + 256, LEAST, MOST}, n -> y.entry(0, n), NONE);
        SmoothNeighbours z = doc.test(34, "and for others.", THREE);
        doc.dueForAll("entry(c, 2)", NO_CLASSES, k -> z.entry(k, 2), NONE);
        doc.dueForAll("entry(c, 97)", NO_CLASSES, k -> z.entry(k, 97), NONE);
    }

    private static void leaves(Sentences doc) {
        SmoothNeighbours x = doc.test(35, "LEAVES.", THREE);
        doc.row("leaves(6, k)", k -> x.leaves(6, k), -11, 4, -11, 1, -11, 4, -11, 1, -11, NO_LEAVES);
        doc.row("leaves(0, k)", k -> x.leaves(0, k), -1, 1, -1, NO_LEAVES);
        doc.due("leaves(14, 95) of long ones", Sentences.of(GREAT).leaves(14, 95), 1);
        doc.due("leaves(14, 96) of long ones", Sentences.of(GREAT).leaves(14, 96), -120);
        SmoothNeighbours y = doc.test(35, "-1000000 for others.", THREE);
        doc.due("leaves(14, 97)", Sentences.of(GREAT).leaves(14, 97), NO_LEAVES);
        doc.dueForAll("leaves(6, k)", new int[] {9, 10, -1, -8, LEAST, MOST}, k -> y.leaves(6, k), NO_LEAVES);
        doc.dueForAll("leaves(c, 0)", NO_CLASSES, k -> y.leaves(k, 0), NO_LEAVES);
    }

    private static void nearing(Sentences doc) {
        SmoothNeighbours x = doc.test(36, "The latest NEARING one behind k steps (0 .. 2 ROUNDS):", THREE);
        doc.row("nearing(6, k, 0, 9999)", k -> x.nearing(6, k, 0, 9999), 7, 8, 23, 31, 457, 488, 1433, 1921, 8329, NONE);
        SmoothNeighbours y = doc.test(36, "p (what 0), r (1),", THREE);
        doc.row("nearing(6, k, 1, 10000)", k -> y.nearing(6, k, 1, 10000), 1, 1, 3, 4, 59, 63, 185, 248, 3657, NONE);
        doc.row("nearing(6, 4, what, 10000)", what -> y.nearing(6, 4, what, 10000), 457, 59, NONE);
        SmoothNeighbours z = doc.test(36, "mod m (2 .. 10000).", GREAT);
        doc.due("nearing(14, 96, 0, 2)", z.nearing(14, 96, 0, 2), 0);
        doc.due("nearing(14, 96, 0, 10000)", z.nearing(14, 96, 0, 10000), 5778);
        doc.due("nearing(14, 96, 1, 2)", z.nearing(14, 96, 1, 2), 1);
        doc.due("nearing(14, 96, 1, 10000)", z.nearing(14, 96, 1, 10000), 3361);
        doc.due("nearing(14, 0, 0, 7): 98", z.nearing(14, 0, 0, 7), 0);
        SmoothNeighbours others = doc.test(36, "NONE for others.", THREE);
        doc.dueForAll("nearing(6, k, 0, 10)", new int[] {9, -1, LEAST, MOST}, k -> others.nearing(6, k, 0, 10), NONE);
        doc.dueForAll("nearing(6, 0, what, 10)", new int[] {2, -1, LEAST, MOST}, w -> others.nearing(6, 0, w, 10), NONE);
        doc.dueForAll("nearing(6, 0, 0, m)", NO_MODULI, m -> others.nearing(6, 0, 0, m), NONE);
        doc.dueForAll("nearing(6, 8, 1, m)", NO_MODULI, m -> others.nearing(6, 8, 1, m), NONE);
        doc.dueForAll("nearing(c, 0, 0, 10)", NO_CLASSES, k -> others.nearing(k, 0, 0, 10), NONE);
    }

    private static void middle(Sentences doc) {
        SmoothNeighbours x = doc.test(37, "MIDDLE.", THREE);
        doc.row("middle", x::middle, NONE, 2, NONE, 3, 4, 5, 4, NONE);
        doc.due("middle(14) of 2, 11, 13, 17", Sentences.of(GREAT).middle(14), 4);
        SmoothNeighbours y = doc.test(37, "NONE: ROUND is odd,", THREE);
        doc.due("middle(0), one step", y.middle(0), NONE);
        doc.due("middle(2), one step", y.middle(2), NONE);
        doc.due("middle of 65, three steps", Sentences.of(36).middle(3), NONE);
        SmoothNeighbours z = doc.test(37, "and for others.", THREE);
        doc.dueForAll("middle", NO_CLASSES, z::middle, NONE);
    }

    private static void least(Sentences doc) {
        SmoothNeighbours x = doc.test(38, "The least y from 1", THREE);
        doc.due("least(0, 1), 0 would do too", x.least(0, 1), 2);
        doc.due("least(0, 4), 0 would do too", x.least(0, 4), 4);
        doc.due("least(0, -1)", x.least(0, -1), 1);
        doc.due("least(0, 7)", x.least(0, 7), 1);
        SmoothNeighbours y = doc.test(38, "to 3000 for which", 80);
        doc.due("of(3, 1) of 11, 17", y.of(3, 1), 374);
        doc.due("least(3, 289): 2958", y.least(3, 289), 2958);
        y.choose(72);
        doc.due("of(3, 1) of 7, 17", y.of(3, 1), 238);
        doc.due("least(3, 16): 3024 would do", y.least(3, 16), NONE);
        SmoothNeighbours z = doc.test(38,
                "D * y * y and n together are a square (n -1000 .. 1000, of the CLASS's D).", THREE);
        doc.due("least(2, 1000): 10 * 900 and 1000", z.least(2, 1000), 30);
        doc.due("least(2, -1000): 10 * 100 less 1000", z.least(2, -1000), 10);
        doc.due("least(0, -2): 2 less 2", z.least(0, -2), 1);
        doc.due("least(1, 3): 6 and 3", z.least(1, 3), 1);
        doc.due("least(1, -1)", z.least(1, -1), NONE);
    }

    private static void leastOfOthers(Sentences doc) {
        SmoothNeighbours x = doc.test(38, "NONE: there is none,", THREE);
        doc.due("least(0, 0)", x.least(0, 0), NONE);
        doc.due("least(0, 3)", x.least(0, 3), NONE);
        doc.due("least(0, 1000)", x.least(0, 1000), NONE);
        SmoothNeighbours y = doc.test(38, "and for others.", 31);
        doc.due("least(6, 1001): 22 * 4 and 1001 is 33 * 33", y.least(6, 1001), NONE);
        doc.due("least(9, -1001): 42 * 25 less 1001 is 7 * 7", y.least(9, -1001), NONE);
        doc.dueForAll("least(0, n)", new int[] {1001, -1001, LEAST, LEAST + 2, MOST}, n -> y.least(0, n), NONE);
        y.choose(THREE);
        doc.dueForAll("least(c, 1)", NO_CLASSES, k -> y.least(k, 1), NONE);
        doc.dueForAll("least(c, -1)", NO_CLASSES, k -> y.least(k, -1), NONE);
    }

    private static void half(Sentences doc) {
        SmoothNeighbours x = doc.test(56, "Digit k of the p (what 0),", 36);
        doc.digits("half(3, 0, k) of 65", "57", k -> x.half(3, 0, k));
        doc.digits("half(0, 0, k)", "1", k -> x.half(0, 0, k));
        SmoothNeighbours y = doc.test(56, "r (1) with - 1 of a CLASS that is NEGATIVE.", 36);
        doc.digits("half(3, 1, k) of 65", "5", k -> y.half(3, 1, k));
        doc.digits("half(0, 1, k)", "1", k -> y.half(0, 1, k));
        SmoothNeighbours z = doc.test(56, "NONE: it isn't,", THREE);
        doc.row("half(c, 0, 0)", k -> z.half(k, 0, 0), 1, NONE, 3, NONE, NONE, NONE, NONE, NONE);
        doc.row("half(c, 1, 0)", k -> z.half(k, 1, 0), 1, NONE, 1, NONE, NONE, NONE, NONE, NONE);
        SmoothNeighbours none = doc.test(56, "there is none,", THREE);
        doc.digits("half(2, 0, k)", "3", k -> none.half(2, 0, k));
        doc.digits("half(2, 1, k)", "1", k -> none.half(2, 1, k));
        SmoothNeighbours others = doc.test(56, "and for others.", THREE);
        doc.dueForAll("half(2, what, 0)", new int[] {2, 3, -1, LEAST, MOST}, what -> others.half(2, what, 0), NONE);
        doc.dueForAll("half(c, 0, 0)", NO_CLASSES, k -> others.half(k, 0, 0), NONE);
    }
}
