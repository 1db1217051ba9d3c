/** Promises 1 to 5, 29 to 31 and 43: the primes that are there, that come and go, that could. */
final class EdgesOfPrimes {
    private static final int NONE = Sentences.NONE;
    private static final int LEAST = Sentences.LEAST;
    private static final int MOST = Sentences.MOST;
    private static final int[] SEVEN = {2, 3, 5, 7, 11, 13, 17};
    /** Numbers that are none of the seven, some of them if only their last bits counted. */
    private static final int[] NO_PRIMES = {0, 1, 4, 6, 9, 15, 16, 18, 19, 23, -1, -2, -3, 258, 65538, 2 + (1 << 30), LEAST,
        LEAST + 2, MOST};

    static void test(Sentences doc) {
        aNewObject(doc);
        add(doc);
        drop(doc);
        choose(doc);
        allIsAnew(doc);
        isOfPrimes(doc);
        isOfPairs(doc);
        would(doc);
        without(doc);
        bestPrime(doc);
        growth(doc);
    }

    private static void aNewObject(Sentences doc) {
        SmoothNeighbours x = doc.test(1, "THE PRIMES are 2 and 3.");
        doc.due("is(0)", x.is(0), 3);
        doc.due("is(1)", x.is(1), 2);
        doc.due("is(4)", x.is(4), 4);
        doc.due("smooth(6)", x.smooth(6), true);
        doc.due("smooth(5)", x.smooth(5), false);
        doc.tapeHas(x, 0);
        doc.due("octet(0) ahead of any proof", x.octet(0), NONE);
        SmoothNeighbours y = doc.test(1, "THE PRIMES are 2 and 3.");
        x.choose(31);
        doc.due("is(0) of another object", y.is(0), 3);
        doc.due("is(0) of one made behind", new SmoothNeighbours().is(0), 3);
        doc.due("is(0) of the first", x.is(0), 31);
    }

    private static void refused(Sentences doc, SmoothNeighbours x, String state, int... answers) {
        for (int answer : answers) {
            doc.due("the refused call", answer, NONE);
        }
        doc.due("all stays as it was", Sentences.state(x).equals(state), true);
    }

    private static void add(Sentences doc) {
        SmoothNeighbours x = doc.test(2, "A prime comes to THE PRIMES: how many PAIRS there are then.", 0);
        int[] pairs = {1, 4, 10, 23, 40};
        for (int k = 0; k < pairs.length; k++) {
            doc.due("add(" + SEVEN[k] + ")", x.add(SEVEN[k]), pairs[k]);
            doc.due("is(0)", x.is(0), (2 << k) - 1);
            doc.due("is(4)", x.is(4), pairs[k]);
        }
        for (int k = 0; k < SEVEN.length; k++) {
            SmoothNeighbours one = doc.test(2, "A prime comes to THE PRIMES");
            one.choose(0);
            doc.due("add(" + SEVEN[k] + ") to none", one.add(SEVEN[k]), k == 0 ? 1 : 0);
            doc.due("is(0)", one.is(0), 1 << k);
        }
        x = doc.test(2, "NONE: it is there,");
        refused(doc, x, Sentences.state(x), x.add(2), x.add(3));
        x = doc.test(2, "there are 5,", 31);
        refused(doc, x, Sentences.state(x), x.add(13), x.add(17), x.add(2));
        x = doc.test(2, "there are 5,", 15);
        doc.due("add(11), the fifth", x.add(11), 40);
        doc.due("add(13), the sixth", x.add(13), NONE);
        doc.due("drop(11)", x.drop(11), 23);
        doc.due("add(13), the fifth now", x.add(13), 39);
        x = doc.test(2, "it is none of the seven.");
        String state = Sentences.state(x);
        doc.dueForAll("add", NO_PRIMES, x::add, NONE);
        refused(doc, x, state);
    }

    private static void drop(Sentences doc) {
        SmoothNeighbours x = doc.test(3, "A prime goes: how many PAIRS there are then.");
        doc.due("drop(3)", x.drop(3), 1);
        doc.due("is(0)", x.is(0), 1);
        doc.due("drop(2), the last one", x.drop(2), 0);
        doc.due("is(0)", x.is(0), 0);
        doc.due("is(4)", x.is(4), 0);
        x = doc.test(3, "A prime goes: how many PAIRS there are then.", 31);
        doc.due("drop(5) of five", x.drop(5), 14);
        doc.due("is(0)", x.is(0), 27);
        doc.due("drop(11), the greatest", x.drop(11), 9);
        doc.due("is(3)", x.is(3), 4);
        x = doc.test(3, "NONE: it is not there.");
        refused(doc, x, Sentences.state(x), x.drop(5), x.drop(7), x.drop(11), x.drop(13), x.drop(17));
        x = doc.test(3, "it is not there.");
        x.drop(3);
        refused(doc, x, Sentences.state(x), x.drop(3));
        x = doc.test(3, "it is not there.", 0);
        String state = Sentences.state(x);
        doc.dueForAll("drop of no primes", SEVEN, x::drop, NONE);
        refused(doc, x, state);
        x = doc.test(3, "it is not there.", 31);
        state = Sentences.state(x);
        doc.dueForAll("drop", NO_PRIMES, x::drop, NONE);
        refused(doc, x, state);
    }

    private static void choose(Sentences doc) {
        for (int k = 0; k < SEVEN.length; k++) {
            SmoothNeighbours x = doc.test(4, "THE PRIMES are those of bits (2, 3, 5, .. the lowest first)");
            doc.due("choose(" + (1 << k) + ")", x.choose(1 << k), k == 0 ? 1 : 0);
            doc.due("is(6)", x.is(6), SEVEN[k]);
            doc.due("is(0)", x.is(0), 1 << k);
        }
        SmoothNeighbours x = doc.test(4, ": how many PAIRS.");
        doc.due("choose(0)", x.choose(0), 0);
        doc.due("is(1)", x.is(1), 0);
        doc.due("choose(31), five", x.choose(31), 40);
        doc.due("choose(31) again", x.choose(31), 40);
        doc.due("choose(124), the greatest five", x.choose(124), 0);
        doc.due("choose(107), five", x.choose(107), 24);
        doc.due("choose(1)", x.choose(1), 1);
        x = doc.test(4, "NONE: more than 5,");
        refused(doc, x, Sentences.state(x), x.choose(63), x.choose(126), x.choose(95), x.choose(111), x.choose(127));
        x = doc.test(4, "others.");
        refused(doc, x, Sentences.state(x), x.choose(-1), x.choose(128), x.choose(131), x.choose(256), x.choose(LEAST),
                x.choose(LEAST + 3), x.choose(MOST), x.choose(1 << 30), x.choose(-128), x.choose(-125));
    }

    /** Behind a change of the primes nothing is left of what was there ahead of it. */
    private static void allIsAnew(Sentences doc) {
        int[] sets = {3, 0, 31, 124, 1, 64, 79, 7, 107};
        for (int ahead : sets) {
            for (int bits : sets) {
                SmoothNeighbours x = doc.test(4, "THE PRIMES are those of bits", ahead);
                Sentences.state(x);
                x.choose(bits);
                doc.due("all of " + bits + " behind " + ahead,
                        Sentences.state(x).equals(Sentences.state(Sentences.of(bits))), true);
            }
        }
        SmoothNeighbours x = doc.test(2, "A prime comes to THE PRIMES", 5);
        Sentences.state(x);
        x.add(3);
        doc.due("all of 2, 3, 5 behind 2, 5", Sentences.state(x).equals(Sentences.state(Sentences.of(7))), true);
        x = doc.test(3, "A prime goes", 7);
        Sentences.state(x);
        x.drop(3);
        doc.due("all of 2, 5 behind 2, 3, 5", Sentences.state(x).equals(Sentences.state(Sentences.of(5))), true);
    }

    private static void isOfPrimes(Sentences doc) {
        SmoothNeighbours none = doc.test(5, "0 THE PRIMES as bits,", 0);
        doc.due("is(0) without primes", none.is(0), 0);
        doc.due("is(0) of five", Sentences.of(124).is(0), 124);
        none = doc.test(5, "1 how many,", 0);
        doc.due("is(1) without primes", none.is(1), 0);
        doc.due("is(1) of five", Sentences.of(124).is(1), 5);
        none = doc.test(5, "2 CLASSES,", 0);
        doc.due("is(2) without primes", none.is(2), 1);
        doc.due("is(2) of 2", Sentences.of(1).is(2), 1);
        doc.due("is(2) of 3", Sentences.of(2).is(2), 2);
        doc.due("is(2) of five with 2", Sentences.of(31).is(2), 31);
        doc.due("is(2) of five without 2", Sentences.of(124).is(2), 32);
        none = doc.test(5, "3 BOUND,", 0);
        doc.due("is(3) without primes", none.is(3), 3);
        doc.due("is(3) of 2", Sentences.of(1).is(3), 3);
        doc.due("is(3) of 17", Sentences.of(64).is(3), 9);
        none = doc.test(5, "6 the greatest of PRIMES (0: none),", 0);
        doc.due("is(6) without primes", none.is(6), 0);
        doc.due("is(6) of 2", Sentences.of(1).is(6), 2);
        doc.due("is(6) of 2 and 17", Sentences.of(65).is(6), 17);
        none = doc.test(5, "8 CLASSES that are NEGATIVE,", 0);
        doc.due("is(8) without primes", none.is(8), 1);
        doc.due("is(8) of 3", Sentences.of(2).is(8), 1);
        doc.due("is(8) of 2, 3, 5", Sentences.of(7).is(8), 2);
        doc.due("is(8) of 5, 13", Sentences.of(36).is(8), 4);
        none = doc.test(5, "10 all ROUNDS together.", 0);
        doc.due("is(10) without primes", none.is(10), 1);
        doc.due("is(10) of 2, 3, 5", Sentences.of(7).is(10), 14);
        SmoothNeighbours x = doc.test(5, "NONE for others.");
        doc.dueForAll("is", new int[] {11, 12, -1, -2, 256, 1 << 30, LEAST, LEAST + 4, MOST}, x::is, NONE);
    }

    private static void isOfPairs(Sentences doc) {
        SmoothNeighbours none = doc.test(5, "4 PAIRS,", 0);
        doc.due("is(4) without primes", none.is(4), 0);
        doc.due("is(4) of 3", Sentences.of(2).is(4), 0);
        doc.due("is(4) of 2", Sentences.of(1).is(4), 1);
        doc.due("is(4) of 2, 3, 5, 7, 11", Sentences.of(31).is(4), 40);
        none = doc.test(5, "5 RUNS of three numbers or more,", 0);
        doc.due("is(5) without primes", none.is(5), 0);
        doc.due("is(5) of 2: 1 and 2 are two numbers", Sentences.of(1).is(5), 0);
        doc.due("is(5) of 2, 5: 1 and 2, 4 and 5", Sentences.of(5).is(5), 0);
        doc.due("is(5) of 2, 3: 1 to 4, but 8 and 9", Sentences.of(3).is(5), 1);
        doc.due("is(5) of 2, 3, 17: 16 to 18 are just three", Sentences.of(67).is(5), 2);
        doc.due("is(5) of 2, 3, 5, 7, 11", Sentences.of(31).is(5), 6);
        none = doc.test(5, "7 LENGTH of the greatest n (0: no PAIRS),", 0);
        doc.due("is(7) without primes", none.is(7), 0);
        doc.due("is(7) of 3, 5, 7, that have no PAIRS", Sentences.of(14).is(7), 0);
        doc.due("is(7) of 2: 1", Sentences.of(1).is(7), 1);
        doc.due("is(7) of 2, 3: 8", Sentences.of(3).is(7), 1);
        doc.due("is(7) of 2, 5, 11: 10", Sentences.of(21).is(7), 2);
        doc.due("is(7) of 2, 3, 7, 13, 17: 31212", Sentences.of(107).is(7), 5);
        none = doc.test(5, "9 CLASSES with a PAIR,", 0);
        doc.due("is(9) without primes", none.is(9), 0);
        doc.due("is(9) of 3", Sentences.of(2).is(9), 0);
        doc.due("is(9) of 2", Sentences.of(1).is(9), 1);
        doc.due("is(9) of 2, 3: all", Sentences.of(3).is(9), 3);
        doc.due("is(9) of 2, 13: one of three", Sentences.of(33).is(9), 1);
    }

    private static void would(Sentences doc) {
        SmoothNeighbours x = doc.test(29, "How many PAIRS there would be with one prime more.", 15);
        String state = Sentences.state(x);
        doc.due("would(11), a fifth", x.would(11), 40);
        doc.due("would(17), a fifth", x.would(17), 36);
        doc.due("all stays as it was", Sentences.state(x).equals(state), true);
        x = doc.test(29, "How many PAIRS there would be with one prime more.", 0);
        doc.due("would(2) of none", x.would(2), 1);
        doc.due("would(17) of none", x.would(17), 0);
        doc.due("is(1)", x.is(1), 0);
        x = doc.test(29, "NONE: it is there,", 7);
        doc.dueForAll("would", new int[] {2, 3, 5}, x::would, NONE);
        x = doc.test(29, "there are 5,", 31);
        doc.dueForAll("would of five", SEVEN, x::would, NONE);
        x = doc.test(29, "it is none of the seven.");
        doc.dueForAll("would", NO_PRIMES, x::would, NONE);
    }

    private static void without(Sentences doc) {
        SmoothNeighbours x = doc.test(30, "How many PAIRS there would be without one prime.", 31);
        String state = Sentences.state(x);
        doc.due("without(2)", x.without(2), 0);
        doc.due("without(5)", x.without(5), 14);
        doc.due("without(11), the greatest", x.without(11), 23);
        doc.due("all stays as it was", Sentences.state(x).equals(state), true);
        x = doc.test(30, "How many PAIRS there would be without one prime.", 1);
        doc.due("without(2), the last one", x.without(2), 0);
        doc.due("is(4)", x.is(4), 1);
        x = doc.test(30, "NONE: it is not there.");
        doc.dueForAll("without", new int[] {5, 7, 11, 13, 17}, x::without, NONE);
        doc.dueForAll("without", NO_PRIMES, x::without, NONE);
        x = doc.test(30, "NONE: it is not there.", 0);
        doc.dueForAll("without of no primes", SEVEN, x::without, NONE);
    }

    /** In no set two primes are the best ones together, so "of like ones the least" shows in would alone. */
    private static void bestPrime(Sentences doc) {
        SmoothNeighbours x = doc.test(31, "Of these seven the prime by which most PAIRS would be more,");
        doc.due("bestPrime() of 2, 3", x.bestPrime(), 5);
        doc.due("is(0)", x.is(0), 3);
        doc.due("bestPrime() of none", Sentences.of(0).bestPrime(), 2);
        doc.due("bestPrime() of 3, 5, 7, 11", Sentences.of(30).bestPrime(), 2);
        doc.due("bestPrime() of 2, 3, 7, 11", Sentences.of(27).bestPrime(), 5);
        for (int bits : Sentences.allSets()) {
            x = doc.test(31, "of like ones the least.", bits);
            int best = NONE;
            for (int prime : SEVEN) {
                best = x.would(prime) > x.would(best) ? prime : best;
            }
            doc.due("bestPrime() of " + bits, x.bestPrime(), best);
        }
        x = doc.test(31, "NONE: none can come.", 31);
        doc.due("bestPrime() of five", x.bestPrime(), NONE);
        doc.due("bestPrime() of the greatest five", Sentences.of(124).bestPrime(), NONE);
        doc.due("bestPrime() of four", Sentences.of(15).bestPrime(), 11);
    }

    private static void growth(Sentences doc) {
        SmoothNeighbours x = doc.test(43,
                "How many PAIRS there are by the first k of THE PRIMES alone (0 .. how many).", 31);
        doc.row("growth", x::growth, 0, 1, 4, 10, 23, 40);
        doc.due("is(0)", x.is(0), 31);
        x = doc.test(43, "by the first k of THE PRIMES alone", 64);
        x.add(3);
        x.add(2);
        doc.row("growth, 2 is the first, though it came last", x::growth, 0, 1, 4, 7);
        x = doc.test(43, "(0 .. how many)", 0);
        doc.due("growth(0) of none", x.growth(0), 0);
        doc.due("growth(1) of none", x.growth(1), NONE);
        x = doc.test(43, "NONE for others.");
        doc.dueForAll("growth", new int[] {3, 4, -1, LEAST, MOST}, x::growth, NONE);
        doc.due("growth(6) of five", Sentences.of(31).growth(6), NONE);
    }
}
