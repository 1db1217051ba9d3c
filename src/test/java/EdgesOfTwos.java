/** Promises 46 to 51: numbers that are two apart. */
final class EdgesOfTwos {
    private static final int NONE = Sentences.NONE;
    private static final int LEAST = Sentences.LEAST;
    private static final int MOST = Sentences.MOST;
    /** 2, 3, 5: 1, 2, 3, 4, 6, 8, 10, 16, 18, 25, 30, 48, 160 of seven classes. */
    private static final int THREE = 7;
    /** 2, 3, 7, 13, 17: 28 of them, the last one 62424, the greatest of all, of 31 classes. */
    private static final int GREAT = 107;
    private static final int[] NO_TWOS = {13, 14, -1, -2, 256, 1 << 30, LEAST, LEAST + 1, MOST};

    static void test(Sentences doc) {
        twos(doc);
        twoClasses(doc);
        twoClass(doc);
        two(doc);
        twoOfOthers(doc);
        twoDigit(doc);
        twosAgree(doc);
    }

    private static void twos(Sentences doc) {
        SmoothNeighbours x = doc.test(46, "How many TWOS there are.", 0);
        doc.due("twos() without primes", x.twos(), 0);
        doc.due("twos() of 2: 2 and 4", Sentences.of(1).twos(), 1);
        doc.due("twos() of 3: 1 and 3", Sentences.of(2).twos(), 1);
        doc.due("twos() of 5", Sentences.of(4).twos(), 0);
        doc.due("twos() of 3, 5: 1, 3, 25", Sentences.of(6).twos(), 3);
        doc.due("twos() of the greatest", Sentences.of(GREAT).twos(), 28);
        doc.due("twos() of 2, 3, 5, 7, 11", Sentences.of(31).twos(), 49);
        SmoothNeighbours y = doc.test(46, "How many TWOS there are.");
        doc.due("twos()", y.twos(), 5);
        y.add(5);
        doc.due("twos() with 5", y.twos(), 13);
        y.drop(2);
        doc.due("twos() without 2", y.twos(), 3);
        y.choose(63);
        doc.due("twos() behind a refused call", y.twos(), 3);
    }

    private static void twoClasses(Sentences doc) {
        SmoothNeighbours x = doc.test(47, "How many TWO CLASSES there are.", 0);
        doc.due("twoClasses() without primes", x.twoClasses(), 0);
        doc.due("twoClasses() of 2", Sentences.of(1).twoClasses(), 1);
        doc.due("twoClasses() of 3", Sentences.of(2).twoClasses(), 1);
        doc.due("twoClasses() of 2, 3", Sentences.of(3).twoClasses(), 3);
        doc.due("twoClasses() of five with 2", Sentences.of(31).twoClasses(), 31);
        doc.due("twoClasses() of five without 2", Sentences.of(124).twoClasses(), 31);
    }

    private static void twoClass(Sentences doc) {
        SmoothNeighbours x = doc.test(48, "Of a TWO CLASS: 0 q,", THREE);
        doc.row("twoClass(c, 0)", k -> x.twoClass(k, 0), 2, 3, 5, 6, 10, 15, 30, NONE);
        SmoothNeighbours root = doc.test(48, "1 the whole root of q,", THREE);
        doc.row("twoClass(c, 1)", k -> root.twoClass(k, 1), 1, 1, 2, 2, 3, 3, 5, NONE);
        doc.due("twoClass(30, 1) of the greatest five: 85085", Sentences.of(124).twoClass(30, 1), 291);
        SmoothNeighbours round = doc.test(48, "2 ROUND,", THREE);
        doc.row("twoClass(c, 2)", k -> round.twoClass(k, 2), 1, 2, 1, 2, 1, 2, 2, NONE);
        doc.due("twoClass(28, 2) of the greatest", Sentences.of(GREAT).twoClass(28, 2), 34);
        SmoothNeighbours lengths = doc.test(48, "3 LENGTH of x,", GREAT);
        doc.due("twoClass(4, 3): 649", lengths.twoClass(4, 3), 3);
        doc.due("twoClass(3, 3): 8", lengths.twoClass(3, 3), 1);
        doc.due("twoClass(28, 3): 5499853978555", lengths.twoClass(28, 3), 13);
        SmoothNeighbours other = doc.test(48, "4 LENGTH of y,", GREAT);
        doc.due("twoClass(4, 4): 180", other.twoClass(4, 4), 3);
        doc.due("twoClass(3, 4): 3", other.twoClass(3, 4), 1);
        doc.due("twoClass(28, 4): 98876026314", other.twoClass(28, 4), 11);
        SmoothNeighbours many = doc.test(48, "5 how many TWOS come of it.", THREE);
        doc.row("twoClass(c, 5)", k -> many.twoClass(k, 5), 2, 3, 2, 2, 1, 2, 1, NONE);
        doc.due("twoClass(1, 5) of 3, 5", Sentences.of(6).twoClass(1, 5), 0);
        SmoothNeighbours y = doc.test(48, "NONE for others.", THREE);
        doc.row("what of twoClass(0, w)", what -> y.twoClass(0, what), 2, 1, 1, 1, 1, 2, NONE);
        doc.dueForAll("twoClass(0, w)", new int[] {6, 7, -1, 256, LEAST, MOST}, what -> y.twoClass(0, what), NONE);
        doc.dueForAll("twoClass(c, 0)", new int[] {7, 8, -1, 256, LEAST, MOST}, k -> y.twoClass(k, 0), NONE);
        doc.dueForAll("twoClass(c, 5)", new int[] {7, 8, -1, 256, LEAST, MOST}, k -> y.twoClass(k, 5), NONE);
        doc.due("twoClass(0, 0) without primes", Sentences.of(0).twoClass(0, 0), NONE);
    }

    private static void two(Sentences doc) {
        SmoothNeighbours length = doc.test(49, "Of the i-th of TWOS n: 0 LENGTH,", THREE);
        doc.row("two(i, 0)", i -> length.two(i, 0), 1, 1, 1, 1, 1, 1, 2, 2, 2, 2, 2, 2, 3, NONE);
        SmoothNeighbours family = doc.test(49, "1 its TWO CLASS,", THREE);
        doc.row("two(i, 1)", i -> family.two(i, 1), 1, 0, 5, 3, 1, 2, 6, 0, 4, 1, 5, 3, 2, NONE);
        SmoothNeighbours index = doc.test(49, "2 its i,", THREE);
        doc.row("two(i, 2)", i -> index.two(i, 2), 1, 1, 1, 1, 2, 1, 1, 2, 1, 3, 2, 2, 2, NONE);
        doc.due("two(48, 2) of five, the BOUND", Sentences.of(31).two(48, 2), 6);
        SmoothNeighbours left = doc.test(49, "3 n mod 10000,", GREAT);
        doc.due("two(0, 3)", left.two(0, 3), 1);
        doc.due("two(25, 3): 9826", left.two(25, 3), 9826);
        doc.due("two(26, 3): 11662", left.two(26, 3), 1662);
        doc.due("two(27, 3): 62424", left.two(27, 3), 2424);
        SmoothNeighbours whole = doc.test(49, "4 n, if it is below 10 to the 9", GREAT);
        doc.due("two(0, 4)", whole.two(0, 4), 1);
        doc.due("two(27, 4)", whole.two(27, 4), 62424);
    }

    /** No n is above 62424: that one is not below 10 to the 9 can't come. */
    private static void twoOfOthers(Sentences doc) {
        for (int bits : Sentences.allSets()) {
            SmoothNeighbours x = doc.test(49, "(NONE: it isn't).", bits);
            for (int i = 0; i < x.twos(); i++) {
                doc.due("two(" + i + ", 4) of " + bits, x.two(i, 4) > 0 && x.two(i, 4) <= 62424, true);
            }
        }
        SmoothNeighbours y = doc.test(49, "NONE for others.", THREE);
        for (int what = 0; what <= 4; what++) {
            int each = what;
            doc.dueForAll("two(i, " + each + ")", NO_TWOS, i -> y.two(i, each), NONE);
        }
        doc.dueForAll("two(0, w)", new int[] {5, 6, -1, 256, LEAST, MOST}, what -> y.two(0, what), NONE);
        doc.due("two(0, 0) without primes", Sentences.of(0).two(0, 0), NONE);
    }

    private static void twoDigit(Sentences doc) {
        SmoothNeighbours x = doc.test(50, "Digit k of n of the i-th of TWOS.", GREAT);
        doc.row("twoDigit(27, k)", k -> x.twoDigit(27, k), 4, 2, 4, 2, 6, NONE);
        SmoothNeighbours y = doc.test(50, "NONE: there is none,", THREE);
        doc.digits("twoDigit(12, k)", "160", k -> y.twoDigit(12, k));
        doc.digits("twoDigit(0, k)", "1", k -> y.twoDigit(0, k));
        SmoothNeighbours z = doc.test(50, "and for others.", THREE);
        doc.dueForAll("twoDigit(i, 0)", NO_TWOS, i -> z.twoDigit(i, 0), NONE);
        doc.due("twoDigit(0, 0) without primes", Sentences.of(0).twoDigit(0, 0), NONE);
        doc.due("twoDigit(0, 0) of 5", Sentences.of(4).twoDigit(0, 0), NONE);
    }

    private static void twosAgree(Sentences doc) {
        SmoothNeighbours x = doc.test(51,
                "Whether TWOS with n and 2 up to a number (0 .. 200000) are those by the sieve, one by "
                + "one.");
        for (int upTo : new int[] {0, 1, 2, 3, 4, 5, 6, 7, 8, 17, 18, 19, 199999, 200000}) {
            doc.due("twosAgree(" + upTo + ")", x.twosAgree(upTo), true);
        }
        for (int bits : Sentences.allSets()) {
            doc.due("twosAgree(200000) of " + bits, Sentences.of(bits).twosAgree(200000), true);
        }
        SmoothNeighbours y = doc.test(51, "False for others.");
        for (int upTo : new int[] {200001, 200002, 400000, -1, -2, 1 << 30, LEAST, LEAST + 2, MOST}) {
            doc.due("twosAgree(" + upTo + ")", y.twosAgree(upTo), false);
            doc.due("twosAgree(" + upTo + ") without primes", Sentences.of(0).twosAgree(upTo), false);
        }
    }
}
