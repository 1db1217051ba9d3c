import java.math.BigInteger;

/** The Terms, and what else the document says ahead of Promise 1. */
final class EdgesOfTerms {
    private static final int NONE = Sentences.NONE;
    private static final int TERMS = Sentences.TERMS;
    private static final int[] SEVEN = {2, 3, 5, 7, 11, 13, 17};
    /** 2, 3, 5, whose pairs are 1, 2, 3, 4, 5, 8, 9, 15, 24, 80 of the classes 1, 3, 5, 6, 10, 15, 30. */
    private static final int THREE = 7;

    static void test(Sentences doc) {
        use(doc);
        primes(doc);
        classes(doc);
        fraction(doc);
        unit(doc);
        powers(doc);
        bound(doc);
        found(doc);
        witness(doc);
        entryLeavesMiddle(doc);
        twos(doc);
        number(doc);
        proof(doc);
        allSmooth(doc);
        digits(doc);
        powersAndRadical(doc);
        runs(doc);
        measures(doc);
        moreMeasures(doc);
        orderAndRelations(doc);
    }

    private static void use(Sentences doc) {
        SmoothNeighbours x = doc.test(TERMS, "An object is used for at most 512 calls after it has been made;");
        for (int call = 1; call < 512; call++) {
            x.feed(call, call, call, call, call);
        }
        doc.due("the 512th call", x.end(2000), 2000);
        SmoothNeighbours y = doc.test(TERMS, "An object is used for at most 512 calls after it has been made;");
        for (int call = 1; call < 512; call++) {
            y.choose(call % 32);
        }
        doc.due("the 512th call", y.is(4), 40);
        x = doc.test(TERMS, "The constants: `NONE = -1`: None.");
        doc.due("NONE", SmoothNeighbours.NONE, -1);
    }

    private static void primes(Sentences doc) {
        SmoothNeighbours x = doc.test(TERMS, "THE PRIMES: some of 2, 3, 5, 7, 11, 13, 17,", 0);
        for (int k = 0; k < SEVEN.length; k++) {
            x.add(SEVEN[k]);
            doc.due("is(6) with " + SEVEN[k], x.is(6), SEVEN[k]);
            x.drop(SEVEN[k]);
        }
        doc.due("add(19)", x.add(19), NONE);
        doc.due("add(1)", x.add(1), NONE);
        x = doc.test(TERMS, "at most 5 (at first", 0);
        for (int k = 0; k < SEVEN.length; k++) {
            doc.due("add(" + SEVEN[k] + ") is refused", x.add(SEVEN[k]) == NONE, k >= 5);
            doc.due("is(1)", x.is(1), Math.min(k + 1, 5));
        }
        x = doc.test(TERMS, "(at first 2 and 3).");
        doc.due("is(0)", x.is(0), 3);
        x = doc.test(TERMS, "SMOOTH is a number from 1 on that no other prime divides.");
        for (int n = -3; n <= 12; n++) {
            doc.due("smooth(" + n + ")", x.smooth(n), n >= 1 && n != 5 && n != 7 && n != 10 && n != 11);
        }
        x = doc.test(TERMS, "NEIGHBOURS: n and n and 1, both SMOOTH (n from 1 on).");
        doc.due("small(0): not 0 and 1", x.small(0), 1);
        doc.due("sieved(1)", x.sieved(1), 0);
        doc.due("sieved(2)", x.sieved(2), 1);
    }

    private static void classes(Sentences doc) {
        SmoothNeighbours x = doc.test(TERMS, "CLASSES: all products q of unlike ones of THE PRIMES (of none", 6);
        int[] ofOddOnes = {1, 3, 5, 15, NONE};
        doc.row("of(c, 0) of 3, 5", k -> x.of(k, 0), ofOddOnes);
        doc.due("of(30, 0) of five: all of them", Sentences.of(31).of(30, 0), 2310);
        SmoothNeighbours none = doc.test(TERMS, "(of none: 1),", 0);
        doc.row("of(c, 0) without primes", k -> none.of(k, 0), 1, NONE);
        SmoothNeighbours two = doc.test(TERMS, "but 2:", 1);
        doc.row("of(c, 0) of 2", k -> two.of(k, 0), 1, NONE);
        doc.row("of(c, 0) of 2, 17", k -> Sentences.of(65).of(k, 0), 1, 17, 34, NONE);
        SmoothNeighbours y = doc.test(TERMS, "by size, numbered from 0 on. Of a CLASS", 67);
        doc.row("of(c, 0) of 2, 3, 17", k -> y.of(k, 0), 1, 3, 6, 17, 34, 51, 102, NONE);
        doc.row("of(c, 0) of 3, 11, 13, 17", k -> Sentences.of(114).of(k, 0), 1, 3, 11, 13, 17, 33, 39, 51, 143, 187, 221,
                429, 561, 663, 2431, 7293, NONE);
        doc.due("of(-1, 0)", y.of(-1, 0), NONE);
        for (int bits : Sentences.allSets()) {
            SmoothNeighbours z = doc.test(TERMS, "D is 2 q (no square).", bits);
            int wrong = 0;
            for (int k = 0; k < z.is(2); k++) {
                wrong += z.of(k, 1) != 2 * z.of(k, 0) || z.of(k, 2) * z.of(k, 2) >= z.of(k, 1) ? 1 : 0;
            }
            doc.due("classes of " + bits + " whose D is not so", wrong, 0);
        }
    }

    private static void fraction(Sentences doc) {
        SmoothNeighbours x = doc.test(TERMS,
                "THE FRACTION of D: a0 is the whole root of D (downward), m is 0, d 1, a a0;", THREE);
        doc.row("of(c, 2)", k -> x.of(k, 2), 1, 2, 3, 3, 4, 5, 7);
        doc.row("step(c, 0)", k -> x.step(k, 0), 1, 2, 3, 3, 4, 5, 7);
        doc.due("of(15, 2) of 7, 11, 13, 17: 34034", Sentences.of(120).of(15, 2), 184);
        SmoothNeighbours y = doc.test(TERMS,
                "then step by step: m is d * a - m (as they were), d is (D - m * m) / d, a is (a0 and m) "
                + "/ d (downward).", THREE);
        doc.row("step(6, k) of 60", k -> y.step(6, k), 7, 1, 2, 1, 14);
        doc.row("step(6, k) of 22", k -> Sentences.of(31).step(6, k), 4, 1, 2, 4, 2, 1, 8);
        SmoothNeighbours z = doc.test(TERMS, "ROUND: the least number of steps, 1 at least, behind which d is 1.", THREE);
        doc.row("of(c, 3)", k -> z.of(k, 3), 1, 2, 1, 2, 2, 2, 4);
        doc.due("of(3, 3) of 5, 13: 130", Sentences.of(36).of(3, 3), 3);
        SmoothNeighbours near = doc.test(TERMS,
                "NEARING ones: p, r: at first 1, 0 and a0, 1; by each step a times the latest and "
                + "the one ahead, of both by itself.", THREE);
        doc.row("nearing(6, k, 0, 10000)", k -> near.nearing(6, k, 0, 10000), 7, 8, 23, 31, 457);
        doc.row("nearing(6, k, 1, 10000)", k -> near.nearing(6, k, 1, 10000), 1, 1, 3, 4, 59);
    }

    private static void unit(Sentences doc) {
        SmoothNeighbours x = doc.test(TERMS,
                "THE UNIT of D: x, y, the least ones from 1 on with x * x - D * y * y = 1:", THREE);
        int[] squares = {2, 6, 10, 12, 20, 30, 60};
        for (int k = 0; k < squares.length; k++) {
            int y = 1;
            while (Math.round(Math.sqrt(squares[k] * y * y + 1)) != Math.sqrt(squares[k] * y * y + 1)) {
                y++;
            }
            int root = (int) Math.sqrt(squares[k] * y * y + 1);
            doc.due("x of " + squares[k], numberOf(x, k, 0), root);
            doc.due("y of " + squares[k], numberOf(x, k, 1), y);
        }
        SmoothNeighbours even = doc.test(TERMS,
                "the latest NEARING one ahead of the step by which a ROUND ends, if ROUND is even;",
                THREE);
        doc.due("x of 60", numberOf(even, 6, 0), 31);
        doc.due("x of 60 is near", even.nearing(6, 3, 0, 10000), 31);
        doc.due("y of 60", numberOf(even, 6, 1), 4);
        SmoothNeighbours odd = doc.test(TERMS,
                "of a ROUND that is odd that is one with - 1 (NEGATIVE), and THE UNIT is x * x and D "
                + "* y * y, together, and 2 * x * y of that.", 36);
        doc.row("of(c, 4) of 5, 13", k -> odd.of(k, 4), 1, 1, 1, 1, NONE);
        doc.due("p of 130", odd.half(3, 0, 1) * 10 + odd.half(3, 0, 0), 57);
        doc.due("r of 130", odd.half(3, 1, 0), 5);
        doc.due("x of 130", numberOf(odd, 3, 0), 57 * 57 + 130 * 25);
        doc.due("y of 130", numberOf(odd, 3, 1), 570);
    }

    private static int numberOf(SmoothNeighbours x, int k, int what) {
        int number = 0;
        for (int place = x.of(k, 6 + what) - 1; place >= 0; place--) {
            number = number * 10 + x.unit(k, what, place);
        }
        return number;
    }

    private static void powers(Sentences doc) {
        SmoothNeighbours x = doc.test(TERMS,
                "POWERS of THE UNIT: x(1) is x; x(0) is 1; x(i and 1) is 2 * x * x(i) - x(i - 1).", THREE);
        doc.row("power(4, i, 10000)", i -> x.power(4, i, 10000), 1, 9, 161, 2889, 1841);
        BigInteger before = BigInteger.ONE;
        BigInteger now = BigInteger.valueOf(31);
        for (int i = 1; i <= 60; i++) {
            doc.due("power(6, " + i + ", 9973)", x.power(6, i, 9973), now.mod(BigInteger.valueOf(9973)).intValue());
            BigInteger after = now.multiply(BigInteger.valueOf(62)).subtract(before);
            before = now;
            now = after;
        }
    }

    private static void bound(Sentences doc) {
        int[] bounds = {3, 3, 3, 4, 6, 7, 9};
        for (int k = 0; k < SEVEN.length; k++) {
            SmoothNeighbours x = doc.test(TERMS,
                    "BOUND: the greater of 3 and half of (the greatest of THE PRIMES and 1);", 1 << k);
            doc.due("is(3) of " + SEVEN[k], x.is(3), bounds[k]);
            doc.due("is(3) of 2 and " + SEVEN[k], Sentences.of(1 << k | 1).is(3), bounds[k]);
        }
        SmoothNeighbours x = doc.test(TERMS, "without PRIMES 3.", 0);
        doc.due("is(3)", x.is(3), 3);
    }

    private static void found(Sentences doc) {
        SmoothNeighbours x = doc.test(TERMS,
                "FOUND: of all CLASSES, i from 1 to BOUND: is x(i) odd and n = (x(i) - 1) / 2 and n and 1 "
                + "are SMOOTH, these are NEIGHBOURS, by CLASS and i.", 15);
        doc.due("2400 is a pair of 2, 3, 5, 7", x.small(21), 2400);
        doc.due("its class: 3", x.measure(21, 2), 1);
        doc.due("its index, the BOUND", x.measure(21, 3), 4);
        doc.due("9800 is a pair of five", Sentences.of(31).small(39), 9800);
        doc.due("its class: 1", Sentences.of(31).measure(39, 2), 0);
        doc.due("its index, the BOUND", Sentences.of(31).measure(39, 3), 6);
        for (int bits : Sentences.allSets()) {
            SmoothNeighbours y = doc.test(TERMS,
                    "(That there are no others is what is shown by it; each n comes of one CLASS alone.)",
                    bits);
            doc.due("agrees(200000) of " + bits, y.agrees(200000), true);
            doc.due("pairs of " + bits, y.is(4), y.sieved(200000));
            SmoothNeighbours z = doc.test(TERMS, "By size of n, numbered from 0 on, PAIRS.", bits);
            for (int pair = 1; pair < z.is(4); pair++) {
                doc.due("pair " + pair + " of " + bits + " is greater", z.small(pair) > z.small(pair - 1), true);
            }
        }
    }

    private static void witness(Sentences doc) {
        SmoothNeighbours x = doc.test(TERMS, "WITNESS of a CLASS and an INDEX i (1 .. BOUND):");
        doc.row("witness(2, i)", i -> x.witness(2, i), NONE, 0, 7, 5, NONE);
        SmoothNeighbours y = doc.test(TERMS, "0, if n = (x(i) - 1) / 2 and n and 1 are SMOOTH; else", 15);
        doc.due("witness(1, 4): 2400 and 2401", y.witness(1, 4), 0);
        y.drop(7);
        doc.due("witness(1, 3): 242 and 243", y.witness(1, 3), 11);
        SmoothNeighbours z = doc.test(TERMS,
                "the least prime below 1000, not one of THE PRIMES, that divides n or n and 1;", 1);
        doc.due("witness(0, 2): 8 and 9", z.witness(0, 2), 3);
        doc.due("witness(0, 3): 49 and 50", z.witness(0, 3), 5);
        z.add(5);
        doc.due("witness(0, 3) with 5", z.witness(0, 3), 7);
        doc.due("witness(21, 7) of 2, 5, 7, 11, 13", Sentences.of(61).witness(21, 7), 967);
        SmoothNeighbours none = doc.test(TERMS, "-2, if there is none.", 39);
        doc.due("witness(11, 4) of 2, 3, 5, 13: 1249 is the least", none.witness(11, 4), -2);
        doc.due("witness(6, 5) of 2, 3, 11", Sentences.of(19).witness(6, 5), -2);
    }

    private static void entryLeavesMiddle(Sentences doc) {
        SmoothNeighbours x = doc.test(TERMS,
                "ENTRY of a prime (2 .. 97) in a CLASS: the least i from 1 on for which it divides y(i) (y(0) "
                + "is 0, y(1) is y, y(i and 1) is 2 * x * y(i) - y(i - 1)).", THREE);
        doc.due("entry(0, 2): 2", x.entry(0, 2), 1);
        doc.due("entry(0, 3): 12", x.entry(0, 3), 2);
        doc.due("entry(0, 5): 70", x.entry(0, 5), 3);
        doc.due("entry(0, 17): 408", x.entry(0, 17), 4);
        doc.due("entry(2, 5): of a prime of D", x.entry(2, 5), 5);
        doc.due("entry(0, 97)", x.entry(0, 97), 24);
        SmoothNeighbours y = doc.test(TERMS,
                "LEAVES of a CLASS behind k steps (0 .. 2 ROUNDS): the latest NEARING one: p * p - D * r * "
                + "r.", THREE);
        doc.row("leaves(6, k)", k -> y.leaves(6, k), 49 - 60, 64 - 60, 529 - 540, 961 - 960, 457 * 457 - 60 * 59 * 59);
        doc.due("leaves(6, 8)", y.leaves(6, 8), -11);
        doc.due("leaves(6, 9)", y.leaves(6, 9), -1000000);
        SmoothNeighbours z = doc.test(TERMS, "MIDDLE of a CLASS with an even ROUND: d behind half of ROUND steps.", THREE);
        doc.due("middle(6): 7, 1, 2: d is 11, then 4", z.middle(6), 4);
        doc.due("middle(1): 2, 2: d is 2", z.middle(1), 2);
        doc.due("middle(0)", z.middle(0), NONE);
    }

    private static void twos(Sentences doc) {
        SmoothNeighbours x = doc.test(TERMS, "TWOS: n and n and 2, both SMOOTH (n from 1 on).", 3);
        doc.row("two(i, 4)", i -> x.two(i, 4), 1, 2, 4, 6, 16, NONE);
        SmoothNeighbours y = doc.test(TERMS, "TWO CLASSES: all products q of unlike ones of THE PRIMES but 1, by size;", 67);
        doc.row("twoClass(c, 0)", k -> y.twoClass(k, 0), 2, 3, 6, 17, 34, 51, 102, NONE);
        doc.row("twoClass(c, 0) of 2", k -> Sentences.of(1).twoClass(k, 0), 2, NONE);
        SmoothNeighbours z = doc.test(TERMS, "of these D is q; THE FRACTION, ROUND, THE UNIT, POWERS are as above;", 38);
        doc.row("twoClass(c, 0) of 3, 5, 13", k -> z.twoClass(k, 0), 3, 5, 13, 15, 39, 65, 195, NONE);
        doc.row("twoClass(c, 2) of 3, 5, 13", k -> z.twoClass(k, 2), 2, 1, 5, 2, 2, 1, 2, NONE);
        doc.due("twoClass(2, 3): 649", z.twoClass(2, 3), 3);
        doc.due("twoClass(2, 4): 180", z.twoClass(2, 4), 3);
        SmoothNeighbours even = doc.test(TERMS, "FOUND likewise, i from 1 to BOUND, n being x(i) - 1.", 6);
        doc.due("1 of 2, an even power", even.two(0, 4), 1);
        doc.due("25 of 26", even.two(2, 4), 25);
        doc.due("its index, the BOUND", even.two(2, 2), 3);
        for (int bits : Sentences.allSets()) {
            SmoothNeighbours all = doc.test(TERMS, "(These are all TWOS.) By size of n.", bits);
            doc.due("twosAgree(200000) of " + bits, all.twosAgree(200000), true);
            doc.due("twos() of " + bits, all.twos(), all.apart(2, 200000));
            for (int i = 1; i < all.twos(); i++) {
                doc.due("two " + i + " of " + bits + " is greater", all.two(i, 4) > all.two(i - 1, 4), true);
            }
        }
    }

    private static void number(Sentences doc) {
        SmoothNeighbours x = doc.test(TERMS, "THE NUMBER: told by its digits (1 to 300, the first not 0);");
        Sentences.tell(x, "");
        doc.due("number() of no digit", x.number(), NONE);
        Sentences.tell(x, "7");
        doc.due("number() of one", x.number(), 1);
        Sentences.tell(x, "7".repeat(300));
        doc.due("number() of 300", x.number(), 300);
        Sentences.tell(x, "7".repeat(301));
        doc.due("number() of 301", x.number(), NONE);
        Sentences.tell(x, "0");
        doc.due("number() of 0", x.number(), NONE);
        Sentences.tell(x, "07");
        doc.due("number() of 07", x.number(), NONE);
        Sentences.tell(x, "70");
        doc.due("number() of 70", x.number(), 2);
        SmoothNeighbours y = doc.test(TERMS, "at first 1.");
        doc.due("ofNumber(5)", y.ofNumber(5), 1);
        doc.due("ofNumber(0)", y.ofNumber(0), 1);
        doc.due("ofNumber(1)", y.ofNumber(1), 0);
        doc.due("inNumber(2, 1)", y.inNumber(2, 1), 1);
    }

    private static void proof(Sentences doc) {
        String[] due = {"1:3,2;s;s;7.3:5,2;s;s;11.5:19,6;s;19;13.6:7,2;s;7;13.10:9,2;s;s;17.15:11,2;s;11;7.30:31,4;s;31;7.",
            "1:3,2;2;2;2.", "1:3,2;s;3;5.", "1:3,2;2;2;2.3:5,2;2;2;2."};
        int[] sets = {THREE, 0, 1, 2};
        for (int i = 0; i < sets.length; i++) {
            SmoothNeighbours x = doc.test(TERMS,
                    "THE PROOF: a text: for all CLASSES, one behind the other: q, : and the digits of x, the "
                    + "highest first, a comma, those of y, then for i = 1 .. BOUND each ; and s (WITNESS 0), the WITNESS, or",
                    sets[i]);
            doc.due("proof() of " + sets[i], x.proof(), due[i].length());
            for (int k = 0; k < due[i].length(); k++) {
                doc.due("octet(" + k + ") of " + sets[i], x.octet(k), due[i].charAt(k));
            }
        }
        SmoothNeighbours x = doc.test(TERMS, "or ? (-2), and a point (46) behind each CLASS.", 19);
        x.proof();
        String text = Sentences.written(x);
        doc.due("that of 66 ends the text", text.endsWith(";5.66:23,2;s;23;5;7;?;5."), true);
        doc.due("how many ?", text.chars().filter(sign -> sign == '?').count(), 1);
        doc.due("how many points", text.chars().filter(sign -> sign == 46).count(), 7);
        x = doc.test(TERMS, "Nothing else.", 1);
        doc.due("proof()", x.proof(), 12);
        doc.due("octet(11)", x.octet(11), 46);
        doc.due("octet(12)", x.octet(12), NONE);
    }

    private static void allSmooth(Sentences doc) {
        SmoothNeighbours x = doc.test(TERMS, "ALL SMOOTH numbers by size: number 0 is 1.");
        doc.row("greatDigit(k, 0)", k -> x.greatDigit(k, 0), 1, 2, 3, 4, 6, 8, 9, 2, 6, 8, 4, 7);
        doc.row("greatLong", x::greatLong, 1, 1, 1, 1, 1, 1, 1, 2, 2, 2, 2, 2);
        doc.due("greatLong(-1)", x.greatLong(-1), NONE);
        SmoothNeighbours y = doc.test(TERMS, "ALL SMOOTH numbers by size: number 0 is 1.", 0);
        doc.due("greatDigit(0, 0) without primes", y.greatDigit(0, 0), 1);
    }

    private static void digits(Sentences doc) {
        SmoothNeighbours x = doc.test(TERMS, "DIGITS of a number: to the base 10, the lowest is digit 0.", THREE);
        doc.row("digit(9, k) of 80", k -> x.digit(9, k), 0, 8, NONE);
        doc.row("unit(2, 0, k) of 19", k -> x.unit(2, 0, k), 9, 1, NONE);
        doc.row("twoDigit(12, k) of 160", k -> x.twoDigit(12, k), 0, 6, 1, NONE);
        SmoothNeighbours y = doc.test(TERMS, "LENGTH: how many digits.", 21);
        doc.row("measure(p, 1) of 1, 4, 10", pair -> y.measure(pair, 1), 1, 1, 2, -100);
        doc.due("greatLong(9) of 17: 118587876497", Sentences.of(64).greatLong(9), 12);
    }

    private static void powersAndRadical(Sentences doc) {
        SmoothNeighbours x = doc.test(TERMS, "POWER of a prime in a number: how often it divides it.", THREE);
        doc.due("inPair(9, 2, 0) of 80", x.inPair(9, 2, 0), 4);
        doc.due("inPair(9, 3, 1) of 81", x.inPair(9, 3, 1), 4);
        doc.due("inPair(9, 3, 0) of 80", x.inPair(9, 3, 0), 0);
        SmoothNeighbours y = doc.test(TERMS, "WEIGHT: all POWERS together.", THREE);
        doc.due("measure(9, 4) of 80 and 81", y.measure(9, 4), 9);
        doc.due("measure(0, 4) of 1 and 2", y.measure(0, 4), 1);
        SmoothNeighbours z = doc.test(TERMS, "RADICAL: the product of primes that divide it (of 1: 1).", THREE);
        doc.due("measure(9, 6) of 80 and 81", z.measure(9, 6), 30);
        doc.due("measure(5, 6) of 8 and 9", z.measure(5, 6), 6);
        doc.due("measure(0, 6) of 1 and 2", z.measure(0, 6), 2);
        doc.due("sums(2, 1) of 1, 1 and 2: 2 is not above it", z.sums(2, 1), 0);
        SmoothNeighbours family = doc.test(TERMS, "FAMILY of a PAIR: its CLASS; INDEX: its i.", THREE);
        doc.row("measure(p, 2)", pair -> family.measure(pair, 2), 0, 1, 3, 4, 5, 0, 2, 6, 1, 4);
        doc.row("measure(p, 3)", pair -> family.measure(pair, 3), 1, 1, 1, 1, 1, 2, 1, 1, 2, 2);
        family.add(7);
        doc.due("measure(5, 2) of 6 with 7: 13 * 13 - 42 * 4 is 1", family.measure(5, 2), 8);
        family.drop(3);
        doc.due("measure(1, 2) of 4 without 3: 9 * 9 - 20 * 4 is 1", family.measure(1, 2), 3);
    }

    private static void runs(Sentences doc) {
        SmoothNeighbours x = doc.test(TERMS,
                "RUN: SMOOTH numbers one behind the other as many as can be, from the least n of PAIRS that share "
                + "numbers on: PAIR k, and k and 1, if n of the latter is one more.", THREE);
        doc.due("is(5): 1 to 6, 8 to 10, but 15 and 16", x.is(5), 2);
        doc.row("run(i, 0)", i -> x.run(i, 0), 0, 5, NONE);
        doc.row("run(i, 1)", i -> x.run(i, 1), 6, 3, NONE);
    }

    private static void measures(Sentences doc) {
        SmoothNeighbours place = doc.test(TERMS, "MEASURES of a PAIR: 0 its place by size,", THREE);
        doc.row("measure(p, 0)", pair -> place.measure(pair, 0), 0, 1, 2, 3, 4, 5, 6, 7, 8, 9, -100);
        SmoothNeighbours length = doc.test(TERMS, "1 LENGTH of n,", THREE);
        doc.row("measure(p, 1)", pair -> length.measure(pair, 1), 1, 1, 1, 1, 1, 1, 1, 2, 2, 2);
        SmoothNeighbours kind = doc.test(TERMS, "2 CLASS (its number),", THREE);
        doc.row("measure(p, 2)", pair -> kind.measure(pair, 2), 0, 1, 3, 4, 5, 0, 2, 6, 1, 4);
        SmoothNeighbours index = doc.test(TERMS, "3 INDEX,", THREE);
        doc.row("measure(p, 3)", pair -> index.measure(pair, 3), 1, 1, 1, 1, 1, 2, 1, 1, 2, 2);
        SmoothNeighbours weight = doc.test(TERMS, "4 WEIGHT of n and of n and 1 together,", THREE);
        doc.row("measure(p, 4)", pair -> weight.measure(pair, 4), 1, 2, 3, 3, 3, 5, 4, 6, 6, 9);
    }

    private static void moreMeasures(Sentences doc) {
        SmoothNeighbours greatest = doc.test(TERMS, "5 the greatest prime that divides n * (n and 1),", THREE);
        doc.row("measure(p, 5)", pair -> greatest.measure(pair, 5), 2, 3, 3, 5, 5, 3, 5, 5, 5, 5);
        SmoothNeighbours radical = doc.test(TERMS, "6 RADICAL of n * (n and 1),", THREE);
        doc.row("measure(p, 6)", pair -> radical.measure(pair, 6), 2, 6, 6, 10, 30, 6, 30, 30, 30, 30);
        SmoothNeighbours lowest = doc.test(TERMS, "7 the lowest four digits of n (n mod 10000),", 107);
        doc.due("measure(21, 7) of 4913", lowest.measure(21, 7), 4913);
        doc.due("measure(23, 7) of 31212", lowest.measure(23, 7), 1212);
        SmoothNeighbours more = doc.test(TERMS, "8 how many primes divide n, less how many divide n and 1.", THREE);
        doc.row("measure(p, 8)", pair -> more.measure(pair, 8), -1, 0, 0, 0, -1, 0, -1, 1, 1, 1);
    }

    private static void orderAndRelations(Sentences doc) {
        SmoothNeighbours x = doc.test(TERMS,
                "ORDER by a MEASURE, and of like ones by another one, then by size: rising.", THREE);
        doc.row("order(8, 6, p)", place -> x.order(8, 6, place), 0, 4, 6, 1, 2, 5, 3, 7, 8, 9, NONE);
        doc.row("order(5, 8, p)", place -> x.order(5, 8, place), 0, 1, 2, 5, 4, 6, 3, 7, 8, 9, NONE);
        SmoothNeighbours y = doc.test(TERMS,
                "RELATIONS: of PAIRS, as many as are told, the row of POWERS of n and 1 less those of n, prime by "
                + "prime: RANK is how many of these rows don't come of others by sums of fractions of them (reckoned modulo 10007).",
                THREE);
        doc.row("rank", y::rank, 0, 1, 2, 2, 3, 3, 3, 3, 3, 3, 3, NONE);
    }
}
