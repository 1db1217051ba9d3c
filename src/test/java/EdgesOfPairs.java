/** Promises 11 to 21, 32, 44, 45, 52 and 62: the pairs, their measures, order, runs and relations. */
final class EdgesOfPairs {
    private static final int NONE = Sentences.NONE;
    private static final int NO_MEASURE = -100;
    private static final int LEAST = Sentences.LEAST;
    private static final int MOST = Sentences.MOST;
    /** 2, 3, 5: the pairs are 1, 2, 3, 4, 5, 8, 9, 15, 24, 80. */
    private static final int THREE = 7;
    /** 2, 3, 5, 7, 11: 40 pairs, the last one 9800. */
    private static final int FIVE = 31;
    /** 2, 3, 7, 13, 17: 24 pairs, the last one 31212, the greatest of all. */
    private static final int GREAT = 107;
    private static final int[] NO_PAIRS = {10, 11, -1, -2, 256, 1 << 30, LEAST, LEAST + 1, MOST};
    private static final int[] NO_MEASURES = {9, 10, -1, -2, 256, LEAST, MOST};

    static void test(Sentences doc) {
        digit(doc);
        left(doc);
        small(doc);
        measure(doc);
        inPair(doc);
        order(doc);
        orderOfLikeOnes(doc);
        count(doc);
        top(doc);
        below(doc);
        run(doc);
        rank(doc);
        madeOf(doc);
        madeBy(doc);
        share(doc);
        threes(doc);
        meanLength(doc);
    }

    private static void digit(Sentences doc) {
        SmoothNeighbours x = doc.test(11, "Digit k of n of a PAIR.", GREAT);
        doc.row("digit(23, k)", k -> x.digit(23, k), 2, 1, 2, 1, 3, NONE);
        doc.row("digit(0, k)", k -> x.digit(0, k), 1, NONE);
        SmoothNeighbours y = doc.test(11, "NONE: there is none,", FIVE);
        doc.digits("digit(39, k)", "9800", k -> y.digit(39, k));
        doc.digits("digit(0, k)", "1", k -> y.digit(0, k));
        SmoothNeighbours z = doc.test(11, "and for others.", THREE);
        doc.dueForAll("digit(p, 0)", NO_PAIRS, pair -> z.digit(pair, 0), NONE);
        doc.due("digit(0, 0) without pairs", Sentences.of(0).digit(0, 0), NONE);
        doc.due("digit(0, 0) of 3, 5, 7", Sentences.of(14).digit(0, 0), NONE);
    }

    private static void left(Sentences doc) {
        SmoothNeighbours x = doc.test(12, "n of a PAIR mod m (2 .. 10000).", GREAT);
        doc.due("left(23, 2)", x.left(23, 2), 0);
        doc.due("left(0, 2)", x.left(0, 2), 1);
        doc.due("left(23, 10000)", x.left(23, 10000), 1212);
        doc.due("left(23, 9999)", x.left(23, 9999), 1215);
        doc.due("left(0, 10000)", x.left(0, 10000), 1);
        SmoothNeighbours y = doc.test(12, "NONE for others.", THREE);
        doc.dueForAll("left(0, m)", new int[] {1, 0, -1, -2, 10001, 20000, LEAST, MOST}, m -> y.left(0, m), NONE);
        doc.dueForAll("left(p, 10)", NO_PAIRS, pair -> y.left(pair, 10), NONE);
        doc.due("left(0, 2) without pairs", Sentences.of(0).left(0, 2), NONE);
    }

    /** No n is above 31212: that a PAIR is not below 10 to the 9 can't come. */
    private static void small(Sentences doc) {
        SmoothNeighbours x = doc.test(13, "n of a PAIR, if it is below 10 to the 9.", GREAT);
        doc.due("small(0)", x.small(0), 1);
        doc.due("small(23)", x.small(23), 31212);
        for (int bits : Sentences.allSets()) {
            SmoothNeighbours y = doc.test(13, "NONE: it is not,", bits);
            doc.due("pairs from 10 to the 9 on of " + bits, y.is(4) - y.below(9), 0);
            for (int pair = 0; pair < y.is(4); pair++) {
                doc.due("small(" + pair + ") of " + bits, y.small(pair) > 0 && y.small(pair) <= 31212, true);
            }
        }
        SmoothNeighbours z = doc.test(13, "and for others.", THREE);
        doc.dueForAll("small", NO_PAIRS, z::small, NONE);
        doc.due("small(0) without pairs", Sentences.of(0).small(0), NONE);
    }

    private static void measure(Sentences doc) {
        SmoothNeighbours x = doc.test(14, "A MEASURE of a PAIR.", GREAT);
        doc.row("measure(0, m)", m -> x.measure(0, m), 0, 1, 0, 1, 1, 2, 2, 1, -1, NO_MEASURE);
        doc.row("measure(23, m)", m -> x.measure(23, m), 23, 5, 13, 3, 12, 17, 9282, 1212, 1, NO_MEASURE);
        SmoothNeighbours y = doc.test(14, "-100 for others.", THREE);
        doc.dueForAll("measure(0, m)", NO_MEASURES, m -> y.measure(0, m), NO_MEASURE);
        for (int measure = 0; measure <= 8; measure++) {
            int each = measure;
            doc.dueForAll("measure(p, " + each + ")", NO_PAIRS, pair -> y.measure(pair, each), NO_MEASURE);
        }
        doc.due("measure(0, 0) without pairs", Sentences.of(0).measure(0, 0), NO_MEASURE);
    }

    private static void inPair(Sentences doc) {
        SmoothNeighbours x = doc.test(15, "POWER of a prime in n (what 0),", THREE);
        doc.due("inPair(9, 2, 0): 80", x.inPair(9, 2, 0), 4);
        doc.due("inPair(9, 3, 0): 80", x.inPair(9, 3, 0), 0);
        doc.due("inPair(9, 5, 0): 80", x.inPair(9, 5, 0), 1);
        doc.due("inPair(0, 2, 0): 1", x.inPair(0, 2, 0), 0);
        SmoothNeighbours y = doc.test(15, "in n and 1 (1).", THREE);
        doc.due("inPair(9, 2, 1): 81", y.inPair(9, 2, 1), 0);
        doc.due("inPair(9, 3, 1): 81", y.inPair(9, 3, 1), 4);
        doc.due("inPair(0, 2, 1): 2", y.inPair(0, 2, 1), 1);
        SmoothNeighbours z = doc.test(15, "NONE for others", THREE);
        doc.dueForAll("inPair(9, 2, w)", new int[] {2, 3, -1, LEAST, MOST}, what -> z.inPair(9, 2, what), NONE);
        doc.dueForAll("inPair(p, 2, 0)", NO_PAIRS, pair -> z.inPair(pair, 2, 0), NONE);
        doc.dueForAll("inPair(p, 2, 1)", NO_PAIRS, pair -> z.inPair(pair, 2, 1), NONE);
        SmoothNeighbours other = doc.test(15, "(not one of THE PRIMES, too).", THREE);
        int[] primes = {7, 11, 13, 17, 19, 4, 1, 0, -1, -2, 258, LEAST, MOST};
        doc.dueForAll("inPair(0, p, 0)", primes, prime -> other.inPair(0, prime, 0), NONE);
        doc.dueForAll("inPair(0, p, 1)", primes, prime -> other.inPair(0, prime, 1), NONE);
    }

    private static void order(Sentences doc) {
        SmoothNeighbours x = doc.test(16, "The PAIR at a place (0 ..) of the ORDER by a MEASURE,", THREE);
        doc.row("order(0, 0, p)", p -> x.order(0, 0, p), 0, 1, 2, 3, 4, 5, 6, 7, 8, 9, NONE);
        doc.row("order(7, 0, p) of the greatest", p -> Sentences.of(GREAT).order(7, 0, p), 0, 1, 2, 3, 4, 5, 6, 7, 8, 9, 10,
                11, 12, 13, 14, 15, 16, 17, 18, 19, 20, 23, 21, 22, NONE);
        SmoothNeighbours y = doc.test(16, "NONE for others.", THREE);
        doc.dueForAll("order(m, 0, 0)", NO_MEASURES, measure -> y.order(measure, 0, 0), NONE);
        doc.dueForAll("order(0, m, 0)", NO_MEASURES, other -> y.order(0, other, 0), NONE);
        doc.dueForAll("order(0, 0, p)", NO_PAIRS, place -> y.order(0, 0, place), NONE);
        doc.due("order(0, 0, 0) without pairs", Sentences.of(0).order(0, 0, 0), NONE);
    }

    private static void orderOfLikeOnes(Sentences doc) {
        SmoothNeighbours x = doc.test(16, "of like ones by another one.", THREE);
        doc.row("order(8, 6, p), below 0 first", p -> x.order(8, 6, p), 0, 4, 6, 1, 2, 5, 3, 7, 8, 9, NONE);
        doc.row("order(2, 3, p)", p -> x.order(2, 3, p), 0, 5, 1, 8, 6, 2, 3, 9, 4, 7, NONE);
        doc.row("order(1, 8, p), still like ones by size", p -> x.order(1, 8, p), 0, 4, 6, 1, 2, 3, 5, 7, 8, 9, NONE);
        doc.row("order(8, 0, p) of the greatest: 4913 is first", p -> Sentences.of(GREAT).order(8, 0, p), 21, 0, 7, 9, 11, 16, 18,
                1, 2, 4, 5, 8, 13, 20, 22, 3, 6, 10, 12, 14, 17, 23, 15, 19, NONE);
        doc.row("order(3, 3, p), all like ones by size", p -> x.order(3, 3, p), 0, 1, 2, 3, 4, 6, 7, 5, 8, 9, NONE);
    }

    private static void count(Sentences doc) {
        SmoothNeighbours x = doc.test(17, "How many PAIRS have a MEASURE from low to high.", THREE);
        doc.due("count(7, 9, 24): 9, 15, 24", x.count(7, 9, 24), 3);
        doc.due("count(7, 10, 23): 15", x.count(7, 10, 23), 1);
        doc.due("count(7, 80, 80)", x.count(7, 80, 80), 1);
        doc.due("count(7, 24, 9)", x.count(7, 24, 9), 0);
        doc.due("count(7, 81, most)", x.count(7, 81, MOST), 0);
        doc.due("count(7, least, 0)", x.count(7, LEAST, 0), 0);
        doc.due("count(8, -1, -1)", x.count(8, -1, -1), 3);
        doc.due("count(8, least, most)", x.count(8, LEAST, MOST), 10);
        doc.due("count(0, most, least)", x.count(0, MOST, LEAST), 0);
        doc.due("count(0, 0, 0) without pairs", Sentences.of(0).count(0, 0, 0), 0);
        SmoothNeighbours y = doc.test(17, "NONE: there is no such MEASURE.", THREE);
        doc.dueForAll("count(m, -100, 100)", NO_MEASURES, measure -> y.count(measure, -100, 100), NONE);
        doc.dueForAll("count(m, 1, 0)", NO_MEASURES, measure -> y.count(measure, 1, 0), NONE);
        doc.due("count(9, 0, 0) without pairs", Sentences.of(0).count(9, 0, 0), NONE);
    }

    private static void top(Sentences doc) {
        SmoothNeighbours x = doc.test(18, "The PAIR with the greatest MEASURE,", THREE);
        doc.row("top", x::top, 9, 7, 7, 5, 9, 3, 4, 9, 7, NONE);
        doc.due("top(8) of the greatest: 168", Sentences.of(GREAT).top(8), 15);
        SmoothNeighbours y = doc.test(18, "of like ones the first.");
        doc.row("top of 2, 3", y::top, 3, 0, 2, 3, 3, 1, 1, 3, 1, NONE);
        SmoothNeighbours z = doc.test(18, "NONE: there is none,", 0);
        doc.dueForAll("top without pairs", new int[] {0, 1, 2, 3, 4, 5, 6, 7, 8}, z::top, NONE);
        doc.due("top(0) of 3, 5, 7", Sentences.of(14).top(0), NONE);
        SmoothNeighbours others = doc.test(18, "and for others.", THREE);
        doc.dueForAll("top", NO_MEASURES, others::top, NONE);
    }

    private static void below(Sentences doc) {
        SmoothNeighbours x = doc.test(19, "How many PAIRS have n below 10 to the e (0 .. 400).", THREE);
        doc.row("below", x::below, 0, 7, 10, 10);
        doc.due("below(400)", x.below(400), 10);
        doc.row("below of 2, 5, 11: 1, 4, 10", Sentences.of(21)::below, 0, 2, 3);
        doc.row("below of the greatest", Sentences.of(GREAT)::below, 0, 6, 15, 21, 23, 24);
        doc.due("below(0) without pairs", Sentences.of(0).below(0), 0);
        SmoothNeighbours y = doc.test(19, "NONE for others.", THREE);
        doc.dueForAll("below", new int[] {401, 402, -1, -400, LEAST, MOST}, y::below, NONE);
        doc.due("below(401) without pairs", Sentences.of(0).below(401), NONE);
    }

    private static void run(Sentences doc) {
        SmoothNeighbours x = doc.test(20, "The i-th RUN of three numbers or more: 0 its first PAIR,", FIVE);
        doc.row("run(i, 0)", i -> x.run(i, 0), 0, 11, 13, 20, 22, 26, NONE);
        doc.row("run(i, 0) of 2, 3: 8 and 9 are two", i -> Sentences.of(3).run(i, 0), 0, NONE);
        SmoothNeighbours y = doc.test(20, "1 how many numbers.", FIVE);
        doc.row("run(i, 1)", i -> y.run(i, 1), 12, 3, 3, 3, 3, 3, NONE);
        doc.row("run(i, 1) of 2, 3, 5: 1 to 6, 8 to 10", i -> Sentences.of(7).run(i, 1), 6, 3, NONE);
        SmoothNeighbours z = doc.test(20, "NONE: there is none,", THREE);
        doc.dueForAll("run(i, 0)", new int[] {2, 3, -1, LEAST, MOST}, i -> z.run(i, 0), NONE);
        doc.dueForAll("run(i, 1)", new int[] {2, 3, -1, LEAST, MOST}, i -> z.run(i, 1), NONE);
        doc.due("run(0, 0) without pairs", Sentences.of(0).run(0, 0), NONE);
        doc.due("run(0, 1) of 2", Sentences.of(1).run(0, 1), NONE);
        SmoothNeighbours others = doc.test(20, "and for others.", THREE);
        doc.dueForAll("run(0, w)", new int[] {2, 3, -1, LEAST, MOST}, what -> others.run(0, what), NONE);
    }

    private static void rank(Sentences doc) {
        SmoothNeighbours x = doc.test(21, "RANK of the RELATIONS of the first so many PAIRS (0 ..).", THREE);
        doc.row("rank", x::rank, 0, 1, 2, 2, 3, 3, 3, 3, 3, 3, 3);
        doc.row("rank of five", Sentences.of(FIVE)::rank, 0, 1, 2, 2, 3, 3, 4, 4, 4, 4, 5, 5, 5);
        doc.row("rank of 2, 3, 5, 7, 17", Sentences.of(79)::rank, 0, 1, 2, 2, 3, 3, 4, 4, 4, 4, 4, 4, 5);
        doc.due("rank(40) of five", Sentences.of(FIVE).rank(40), 5);
        doc.due("rank(0) without pairs", Sentences.of(0).rank(0), 0);
        SmoothNeighbours y = doc.test(21, "NONE: there are not so many.", THREE);
        doc.dueForAll("rank", NO_PAIRS_TO_RANK, y::rank, NONE);
        doc.due("rank(1) without pairs", Sentences.of(0).rank(1), NONE);
        doc.due("rank(41) of five", Sentences.of(FIVE).rank(41), NONE);
    }

    private static final int[] NO_PAIRS_TO_RANK = {11, 12, -1, -10, LEAST, MOST};

    private static void madeOf(Sentences doc) {
        SmoothNeighbours x = doc.test(32,
                "Of PAIR a: the least set of THE PRIMES (bits) of which its numbers are made.", THREE);
        doc.row("madeOf", x::madeOf, 1, 3, 3, 5, 7, 3, 7, 7, 7, 7, NONE);
        doc.due("madeOf(23) of the greatest", Sentences.of(GREAT).madeOf(23), 107);
        SmoothNeighbours y = doc.test(32, "NONE for others.", THREE);
        doc.dueForAll("madeOf", NO_PAIRS, y::madeOf, NONE);
        doc.due("madeOf(0) without pairs", Sentences.of(0).madeOf(0), NONE);
    }

    private static void madeBy(Sentences doc) {
        SmoothNeighbours x = doc.test(44, "How many PAIRS are made of just these primes (bits).", THREE);
        doc.row("madeBy", x::madeBy, 0, 1, 0, 3, 0, 1, 0, 5, 0, 0);
        doc.dueForAll("madeBy", new int[] {15, 127, 128, 135, 256 + 7, -1, -8, LEAST, LEAST + 7, MOST}, x::madeBy, 0);
        doc.due("madeBy(0) without primes", Sentences.of(0).madeBy(0), 0);
        doc.due("madeBy(3) without 2", Sentences.of(6).madeBy(3), 0);
    }

    private static void share(Sentences doc) {
        SmoothNeighbours x = doc.test(45, "How many PAIRS a prime divides n or n and 1 of.", THREE);
        doc.due("share(2)", x.share(2), 10);
        doc.due("share(3)", x.share(3), 8);
        doc.due("share(5)", x.share(5), 6);
        doc.due("share(13) of 2, 13", Sentences.of(33).share(13), 0);
        doc.due("share(3) of 3, 5, 7", Sentences.of(14).share(3), 0);
        SmoothNeighbours y = doc.test(45, "NONE: it is none of THE PRIMES.", THREE);
        doc.dueForAll("share", new int[] {7, 11, 13, 17, 19, 0, 1, 4, 6, -1, -2, 258, LEAST, MOST}, y::share, NONE);
        doc.due("share(2) without primes", Sentences.of(0).share(2), NONE);
        doc.due("share(2) of 3, 5, 7", Sentences.of(14).share(2), NONE);
    }

    private static void threes(Sentences doc) {
        SmoothNeighbours x = doc.test(52, "How many n there are with n, n and 1, n and 2 all SMOOTH, of all.", THREE);
        doc.due("threes(): 1, 2, 3, 4, 8", x.threes(), 5);
        doc.due("threes() without primes", Sentences.of(0).threes(), 0);
        doc.due("threes() of 2", Sentences.of(1).threes(), 0);
        doc.due("threes() of 2, 5", Sentences.of(5).threes(), 0);
        doc.due("threes() of 2, 3: 1, 2", Sentences.of(3).threes(), 2);
        doc.due("threes() of 2, 3, 17: 1, 2, 16", Sentences.of(67).threes(), 3);
    }

    private static void meanLength(Sentences doc) {
        SmoothNeighbours x = doc.test(62,
                "PAIRS by LENGTH of n, as floats: how many digits all have together, divided by how many "
                + "PAIRS: its bits.", THREE);
        doc.due("meanLength(): 13 by 10", x.meanLength(), 0x3FA66666);
        doc.due("meanLength() of 2: 1 by 1", Sentences.of(1).meanLength(), 0x3F800000);
        doc.due("meanLength() of 2, 5, 11: 4 by 3", Sentences.of(21).meanLength(), 0x3FAAAAAB);
        doc.due("meanLength() of 2, 5, 11, 13: 12 by 6", Sentences.of(53).meanLength(), 0x40000000);
        doc.due("meanLength() of the greatest: 55 by 24", Sentences.of(GREAT).meanLength(), Float.floatToIntBits(55f / 24f));
        SmoothNeighbours y = doc.test(62, "0 without PAIRS.", 0);
        doc.due("meanLength() without primes", y.meanLength(), 0);
        doc.due("meanLength() of 3, 5, 7", Sentences.of(14).meanLength(), 0);
        y.add(2);
        doc.due("meanLength() of 2", y.meanLength(), 0x3F800000);
        y.drop(2);
        doc.due("meanLength() without primes again", y.meanLength(), 0);
    }
}
