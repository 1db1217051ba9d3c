import java.math.BigInteger;

/** Promises 22 to 28, 39 to 42 and 63: smooth numbers one by one, the sieve, gaps, sums, great ones. */
final class EdgesOfSmooth {
    private static final int NONE = Sentences.NONE;
    private static final int LEAST = Sentences.LEAST;
    private static final int MOST = Sentences.MOST;
    private static final int THREE = 7;
    private static final int FIVE = 31;
    private static final int[] BEYOND = {200001, 200002, 400000, -1, -2, -200000, 1 << 30, LEAST, LEAST + 1, MOST};

    static void test(Sentences doc) {
        smooth(doc);
        smoothUpTo(doc);
        smoothAt(doc);
        next(doc);
        sieved(doc);
        agrees(doc);
        gap(doc);
        apart(doc);
        sums(doc);
        greatLong(doc);
        greatDigit(doc);
        greatOnesGrow(doc);
        thick(doc);
    }

    private static void smooth(Sentences doc) {
        SmoothNeighbours x = doc.test(22, "Whether a number (1 or more) is SMOOTH.", 0);
        doc.due("smooth(1) without primes", x.smooth(1), true);
        doc.due("smooth(2) without primes", x.smooth(2), false);
        int[][] powers = {{1 << 30, 1}, {1162261467, 2}, {1220703125, 4}, {1977326743, 8}, {214358881, 16}, {815730721, 32},
            {410338673, 64}};
        for (int[] power : powers) {
            doc.due("smooth(" + power[0] + ") of " + power[1], Sentences.of(power[1]).smooth(power[0]), true);
            doc.due("smooth(" + power[0] + ") without it", Sentences.of(FIVE & ~power[1]).smooth(power[0]), false);
        }
        doc.due("smooth(31719424) of five", Sentences.of(FIVE).smooth(31719424), true);
        doc.due("smooth(most), a prime", Sentences.of(FIVE).smooth(MOST), false);
        SmoothNeighbours y = doc.test(22, "False for others.");
        for (int n : new int[] {0, -1, -2, -6, -8, LEAST, LEAST + 1, -(1 << 30)}) {
            doc.due("smooth(" + n + ")", y.smooth(n), false);
            doc.due("smooth(" + n + ") without primes", Sentences.of(0).smooth(n), false);
        }
    }

    private static void smoothUpTo(Sentences doc) {
        SmoothNeighbours x = doc.test(23, "How many SMOOTH numbers are 1 .. n (n 0 .. 200000).");
        doc.row("smoothUpTo", x::smoothUpTo, 0, 1, 2, 3, 4, 4, 5, 5, 6, 7, 7);
        doc.due("smoothUpTo(196607)", x.smoothUpTo(196607), 112);
        doc.due("smoothUpTo(196608)", x.smoothUpTo(196608), 113);
        doc.due("smoothUpTo(200000)", x.smoothUpTo(200000), 113);
        doc.due("smoothUpTo(199999) of 2, 3, 5", Sentences.of(THREE).smoothUpTo(199999), 364);
        doc.due("smoothUpTo(200000) of 2, 3, 5", Sentences.of(THREE).smoothUpTo(200000), 365);
        doc.due("smoothUpTo(200000) of five", Sentences.of(FIVE).smoothUpTo(200000), 1498);
        doc.due("smoothUpTo(0) without primes", Sentences.of(0).smoothUpTo(0), 0);
        doc.due("smoothUpTo(200000) without primes", Sentences.of(0).smoothUpTo(200000), 1);
        SmoothNeighbours y = doc.test(23, "NONE for others.");
        doc.dueForAll("smoothUpTo", BEYOND, y::smoothUpTo, NONE);
    }

    private static void smoothAt(Sentences doc) {
        SmoothNeighbours x = doc.test(24, "The k-th SMOOTH number (0: 1), up to 200000.", THREE);
        doc.row("smoothAt", x::smoothAt, 1, 2, 3, 4, 5, 6, 8, 9, 10, 12, 15, 16);
        doc.due("smoothAt(363)", x.smoothAt(363), 196830);
        doc.due("smoothAt(364)", x.smoothAt(364), 200000);
        doc.due("smoothAt(1497) of five", Sentences.of(FIVE).smoothAt(1497), 200000);
        doc.row("smoothAt without primes", Sentences.of(0)::smoothAt, 1, NONE);
        doc.due("smoothAt(17) of 2", Sentences.of(1).smoothAt(17), 131072);
        SmoothNeighbours y = doc.test(24, "NONE: there is none such.", THREE);
        doc.dueForAll("smoothAt", new int[] {365, 366, -1, -2, 1600, LEAST, MOST}, y::smoothAt, NONE);
        doc.due("smoothAt(18) of 2: 262144", Sentences.of(1).smoothAt(18), NONE);
        doc.due("smoothAt(1498) of five", Sentences.of(FIVE).smoothAt(1498), NONE);
    }

    private static void next(Sentences doc) {
        SmoothNeighbours x = doc.test(25, "The least SMOOTH number above n (0 ..), up to 200000.", THREE);
        doc.row("next", x::next, 1, 2, 3, 4, 5, 6, 8, 8, 9, 10, 12, 12, 15);
        doc.due("next(196830)", x.next(196830), 200000);
        doc.due("next(199999)", x.next(199999), 200000);
        doc.due("next(0) without primes", Sentences.of(0).next(0), 1);
        SmoothNeighbours y = doc.test(25, "NONE: there is none.", THREE);
        doc.dueForAll("next", new int[] {200000, 200001, 1 << 30, MOST - 1, MOST}, y::next, NONE);
        doc.due("next(1) without primes", Sentences.of(0).next(1), NONE);
        doc.due("next(131071) of 2", Sentences.of(1).next(131071), 131072);
        doc.due("next(131072) of 2: 262144", Sentences.of(1).next(131072), NONE);
    }

    private static void sieved(Sentences doc) {
        SmoothNeighbours x = doc.test(26, "By the sieve alone: how many NEIGHBOURS there are with n and 1 up to a number "
                + "(0 .. 200000).");
        doc.row("sieved", x::sieved, 0, 0, 1, 2, 3, 3, 3, 3, 3, 4, 4);
        doc.due("sieved(200000)", x.sieved(200000), 4);
        doc.due("sieved(31212) of the greatest", Sentences.of(107).sieved(31212), 23);
        doc.due("sieved(31213) of the greatest", Sentences.of(107).sieved(31213), 24);
        doc.due("sieved(200000) without primes", Sentences.of(0).sieved(200000), 0);
        doc.due("sieved(200000) of 3, 5, 7", Sentences.of(14).sieved(200000), 0);
        SmoothNeighbours y = doc.test(26, "NONE for others.");
        doc.dueForAll("sieved", BEYOND, y::sieved, NONE);
    }

    private static void agrees(Sentences doc) {
        SmoothNeighbours x = doc.test(27, "Whether PAIRS below a number (n and 1 up to it, 200000 at most) are those by the "
                + "sieve, one by one (0 .. 200000).");
        for (int upTo : new int[] {0, 1, 2, 3, 4, 7, 8, 9, 10, 199999, 200000}) {
            doc.due("agrees(" + upTo + ")", x.agrees(upTo), true);
        }
        for (int bits : Sentences.allSets()) {
            doc.due("agrees(200000) of " + bits, Sentences.of(bits).agrees(200000), true);
        }
        SmoothNeighbours y = doc.test(27, "False for others.");
        for (int upTo : BEYOND) {
            doc.due("agrees(" + upTo + ")", y.agrees(upTo), false);
            doc.due("agrees(" + upTo + ") without primes", Sentences.of(0).agrees(upTo), false);
        }
    }

    private static void gap(Sentences doc) {
        SmoothNeighbours x = doc.test(28, "The greatest d by which two SMOOTH numbers, the one next to the other, up to a "
                + "number (0 .. 200000) differ (what 0),");
        doc.row("gap(n, 0)", n -> x.gap(n, 0), NONE, NONE, 1, 1, 1, 1, 2, 2, 2, 2, 2, 2, 3);
        doc.due("gap(200000, 0)", x.gap(200000, 0), 11259);
        doc.due("gap(200000, 0) of 2, 3, 5: 187500 to 192000", Sentences.of(THREE).gap(200000, 0), 4500);
        doc.due("gap(199999, 0) of 2", Sentences.of(1).gap(199999, 0), 65536);
        doc.due("gap(131071, 0) of 2", Sentences.of(1).gap(131071, 0), 32768);
        SmoothNeighbours y = doc.test(28, "the lesser one of the first of these (1).");
        doc.row("gap(n, 1)", n -> y.gap(n, 1), NONE, NONE, 1, 1, 1, 1, 4, 4, 4, 4, 4, 4, 9);
        doc.due("gap(200000, 1)", y.gap(200000, 1), 165888);
        doc.due("gap(200000, 1) of five", Sentences.of(FIVE).gap(200000, 1), 194481);
        SmoothNeighbours z = doc.test(28, "NONE: there are no two,", 64);
        for (int what = 0; what <= 1; what++) {
            doc.due("gap(0, " + what + ") of 17", z.gap(0, what), NONE);
            doc.due("gap(16, " + what + ") of 17", z.gap(16, what), NONE);
            doc.due("gap(17, " + what + ") of 17", z.gap(17, what), what == 0 ? 16 : 1);
            doc.due("gap(200000, " + what + ") without primes", Sentences.of(0).gap(200000, what), NONE);
        }
        SmoothNeighbours others = doc.test(28, "and for others.");
        doc.dueForAll("gap(n, 0)", BEYOND, n -> others.gap(n, 0), NONE);
        doc.dueForAll("gap(n, 1)", BEYOND, n -> others.gap(n, 1), NONE);
        doc.dueForAll("gap(10, w)", new int[] {2, 3, -1, LEAST, MOST}, what -> others.gap(10, what), NONE);
    }

    private static void apart(Sentences doc) {
        SmoothNeighbours x = doc.test(39, "How many v there are, v and v and d (1 .. 1000) both SMOOTH,", THREE);
        doc.due("apart(1, 200000)", x.apart(1, 200000), 10);
        doc.due("apart(999, 200000)", x.apart(999, 200000), 6);
        doc.due("apart(1000, 200000)", x.apart(1000, 200000), 22);
        doc.due("apart(1, 200000) without primes", Sentences.of(0).apart(1, 200000), 0);
        SmoothNeighbours y = doc.test(39, "the latter up to a number (0 .. 200000).", THREE);
        doc.due("apart(1, 0)", y.apart(1, 0), 0);
        doc.due("apart(1, 1)", y.apart(1, 1), 0);
        doc.due("apart(1, 2): 1 and 2", y.apart(1, 2), 1);
        doc.due("apart(1000, 1023)", y.apart(1000, 1023), 0);
        doc.due("apart(1000, 1024): 24 and 1024", y.apart(1000, 1024), 1);
        doc.due("apart(1000, 1999)", y.apart(1000, 1999), 8);
        doc.due("apart(1000, 2000): 1000 and 2000", y.apart(1000, 2000), 9);
        SmoothNeighbours z = doc.test(39, "NONE for others.", THREE);
        doc.dueForAll("apart(1, n)", BEYOND, n -> z.apart(1, n), NONE);
        doc.dueForAll("apart(d, 10)", new int[] {0, -1, -1000, 1001, 1 << 30, LEAST, MOST}, d -> z.apart(d, 10), NONE);
        doc.dueForAll("apart(d, 200000)", new int[] {0, -1, 1001, LEAST, MOST}, d -> z.apart(d, 200000), NONE);
    }

    private static void sums(Sentences doc) {
        SmoothNeighbours x = doc.test(40,
                "Sums: how many a, b, c there are, all SMOOTH, a no more than b, a and b together c,");
        doc.due("sums(1, 0)", x.sums(1, 0), 0);
        doc.due("sums(2, 0): 1 and 1", x.sums(2, 0), 1);
        doc.due("sums(3, 0): 1 and 2, not 2 and 1", x.sums(3, 0), 2);
        doc.due("sums(3000, 0) of 3, 5, 7", Sentences.of(14).sums(3000, 0), 0);
        SmoothNeighbours y = doc.test(40, "c up to a number (0 .. 3000),", 107);
        doc.due("sums(0, 0)", y.sums(0, 0), 0);
        doc.due("sums(2873, 0) is one more: 686 and 2187", y.sums(2873, 0) - y.sums(2872, 0), 1);
        doc.due("sums(3000, 0)", y.sums(3000, 0), y.sums(2873, 0));
        doc.due("sums(3000, 0) of 2, 3, 5", Sentences.of(THREE).sums(3000, 0), 17);
        doc.due("sums(3000, 0) of five", Sentences.of(FIVE).sums(3000, 0), 177);
        SmoothNeighbours z = doc.test(40, "no prime dividing all three (what 0);");
        doc.due("sums(4, 0): 1 and 3, not 2 and 2", z.sums(4, 0), 3);
        doc.due("sums(8, 0): not 2 and 6, not 4 and 4", z.sums(8, 0), 3);
        doc.due("sums(9, 0): 1 and 8, not 3 and 6", z.sums(9, 0), 4);
        doc.due("sums(3000, 0) of 2: 1 and 1 alone", Sentences.of(1).sums(3000, 0), 1);
        SmoothNeighbours great = doc.test(40, "a no more than b, a and b together c,", 107);
        doc.due("sums(2401, 0) is two more: 204 and 2197, 1024 and 1377", great.sums(2401, 0) - great.sums(2400, 0), 2);
        SmoothNeighbours above = doc.test(40, "those with c above the RADICAL of a * b * c (1).");
        doc.due("sums(2, 1): 2 is the RADICAL", above.sums(2, 1), 0);
        doc.due("sums(8, 1)", above.sums(8, 1), 0);
        doc.due("sums(9, 1): 9 is above 6", above.sums(9, 1), 1);
        doc.due("sums(3000, 1)", above.sums(3000, 1), 1);
        doc.due("sums(127, 1) of 2, 3, 5", Sentences.of(THREE).sums(127, 1), 3);
        doc.due("sums(128, 1) of 2, 3, 5: 3 and 125", Sentences.of(THREE).sums(128, 1), 4);
        doc.due("sums(3000, 1) of five", Sentences.of(FIVE).sums(3000, 1), 26);
        SmoothNeighbours others = doc.test(40, "NONE for others.");
        doc.dueForAll("sums(n, 0)", new int[] {3001, 3002, -1, LEAST, MOST}, n -> others.sums(n, 0), NONE);
        doc.dueForAll("sums(n, 1)", new int[] {3001, 3002, -1, LEAST, MOST}, n -> others.sums(n, 1), NONE);
        doc.dueForAll("sums(9, w)", new int[] {2, 3, -1, LEAST, MOST}, what -> others.sums(9, what), NONE);
    }

    private static void greatLong(Sentences doc) {
        SmoothNeighbours x = doc.test(41, "LENGTH of SMOOTH number k (0 .. 400) of ALL.", THREE);
        doc.row("greatLong", x::greatLong, 1, 1, 1, 1, 1, 1, 1, 1, 2);
        doc.due("greatLong(400): 312500", x.greatLong(400), 6);
        doc.row("greatLong of 17", Sentences.of(64)::greatLong, 1, 2, 3, 4, 5, 7);
        doc.due("greatLong(399) of 17", Sentences.of(64).greatLong(399), BigInteger.valueOf(17).pow(399).toString().length());
        doc.due("greatLong(400) of 17", Sentences.of(64).greatLong(400), 493);
        doc.due("greatLong(400) of 13, 17", Sentences.of(96).greatLong(400), 32);
        SmoothNeighbours y = doc.test(41, "NONE: there is none,", 0);
        doc.row("greatLong without primes", y::greatLong, 1, NONE, NONE);
        doc.due("greatLong(400) without primes", y.greatLong(400), NONE);
        SmoothNeighbours z = doc.test(41, "and for others.", THREE);
        doc.dueForAll("greatLong", new int[] {401, 402, -1, -400, LEAST, MOST}, z::greatLong, NONE);
        doc.due("greatLong(401) without primes", Sentences.of(0).greatLong(401), NONE);
    }

    private static void greatDigit(Sentences doc) {
        SmoothNeighbours x = doc.test(42, "Digit d of SMOOTH number k (0 .. 400) of ALL.", 96);
        doc.digits("greatDigit(400, d) of 13, 17", "87208660806205198129054815647797", d -> x.greatDigit(400, d));
        doc.digits("greatDigit(399, d) of 13, 17", "77525982533517893985738250095961", d -> x.greatDigit(399, d));
        doc.digits("greatDigit(0, d)", "1", d -> x.greatDigit(0, d));
        SmoothNeighbours y = doc.test(42, "NONE: there is none,", 64);
        String longest = BigInteger.valueOf(17).pow(400).toString();
        doc.digits("greatDigit(400, d) of 17", longest, d -> y.greatDigit(400, d));
        doc.due("greatDigit(1, 0) without primes", Sentences.of(0).greatDigit(1, 0), NONE);
        doc.due("greatDigit(0, 0) without primes", Sentences.of(0).greatDigit(0, 0), 1);
        SmoothNeighbours z = doc.test(42, "and for others.", THREE);
        doc.dueForAll("greatDigit(k, 0)", new int[] {401, 402, -1, LEAST, MOST}, k -> z.greatDigit(k, 0), NONE);
    }

    /** Where the numbers become longer than nine digits, and than an int can hold. */
    private static void greatOnesGrow(Sentences doc) {
        growFrom(doc, 3, 304, "918330048", "967458816", "1019215872", "1033121304", "1073741824", "1088391168", "1146617856");
        growFrom(doc, 96, 35, "410338673", "815730721", "1066724789", "1394947801", "1824162509", "2385443281", "3119425829");
        growFrom(doc, 9, 178, "939524096", "963780608", "1073741824", "1101463552", "1129900996", "1258815488", "1291315424");
        growFrom(doc, 34, 88, "812017791", "815730721", "1162261467", "1167575877", "1172914587", "1678822119");
        growFrom(doc, 48, 43, "690233687", "815730721", "2357947691", "2786665453", "3293331899", "3892119517");
    }

    private static void growFrom(Sentences doc, int bits, int first, String... numbers) {
        for (int i = 0; i < numbers.length; i++) {
            int k = first + i;
            SmoothNeighbours x = doc.test(42, "Digit d of SMOOTH number k (0 .. 400) of ALL.", bits);
            doc.digits("greatDigit(" + k + ", d) of " + bits, numbers[i], d -> x.greatDigit(k, d));
        }
    }

    private static void thick(Sentences doc) {
        SmoothNeighbours x = doc.test(63,
                "How thick: SMOOTH numbers 1 .. n (1 .. 200000), as a double, by n as a double: its bits.");
        doc.due("thick(1): 1", x.thick(1), 0x3FF0000000000000L);
        doc.due("thick(4): 1", x.thick(4), 0x3FF0000000000000L);
        doc.due("thick(8): 6 by 8", x.thick(8), 0x3FE8000000000000L);
        doc.due("thick(10): 7 by 10", x.thick(10), 4604480259023595110L);
        doc.due("thick(200000): 113 by 200000", x.thick(200000), Double.doubleToLongBits(113.0 / 200000.0));
        doc.due("thick(200000) without primes", Sentences.of(0).thick(200000), Double.doubleToLongBits(1.0 / 200000.0));
        doc.due("thick(131072) without primes", Sentences.of(0).thick(131072), 0x3EE0000000000000L);
        SmoothNeighbours y = doc.test(63, "0 for others.");
        for (int n : new int[] {0, 200001, 200002, -1, -200000, LEAST, MOST}) {
            doc.due("thick(" + n + ")", y.thick(n), 0);
        }
    }
}
