import java.math.BigInteger;

/** Promises 53 to 55 and 57 to 61: the tape, the number that it tells, the proof as a text. */
final class EdgesOfTape {
    private static final int NONE = Sentences.NONE;
    private static final int LEAST = Sentences.LEAST;
    private static final int MOST = Sentences.MOST;
    private static final int THREE = 7;
    /** 2, 3, 5, 7, 17, whose proof is the longest of all. */
    private static final int LONG = 79;
    private static final int LONGEST = 1138;
    private static final String NINES = "9".repeat(300);
    private static final String PROOF_OF_NONE = "1:3,2;2;2;2.";
    private static final String PROOF_OF_TWO = "1:3,2;s;3;5.";
    private static final String PROOF_OF_2_3 = "1:3,2;s;s;5.3:5,2;s;5;11.6:7,2;s;7;5.";

    static void test(Sentences doc) {
        number(doc);
        noNumber(doc);
        inNumber(doc);
        ofNumber(doc);
        ofNumberAndPairs(doc);
        proof(doc);
        octet(doc);
        feed(doc);
        fullTape(doc);
        end(doc);
        proves(doc);
        provesNot(doc);
    }

    private static void told(SmoothNeighbours x, String digits) {
        Sentences.tell(x, digits);
        x.number();
    }

    private static void number(Sentences doc) {
        for (String digits : new String[] {"1", "9", "10", "12345678901234567890", "123456789012345678901",
            "1000000000", "999999999", "1" + "0".repeat(299), NINES}) {
            SmoothNeighbours x = doc.test(53, "The tape (empty then) is THE NUMBER: how many digits.");
            Sentences.tell(x, digits);
            doc.due("number() of " + digits, x.number(), digits.length());
            doc.tapeHas(x, 0);
            int left = new BigInteger(digits).mod(BigInteger.valueOf(9973)).intValue();
            doc.due("THE NUMBER", x.ofNumber(5), left);
            x.choose(1);
            doc.due("THE NUMBER with other primes", x.ofNumber(5), left);
        }
    }

    private static void noNumber(Sentences doc) {
        for (String none : new String[] {"", "0", "00", "01", "0" + "1".repeat(299), "1" + "0".repeat(300), "9".repeat(301),
            "1".repeat(2000), "12a", "a12", "1a2", "-1", "+1", " 1", "1 ", "1.", "1/", "/1", "1:", ":1", "1\u0000",
            "\u0000", "1\u00b1", "\u00ff", "1\u007f"}) {
            SmoothNeighbours x = doc.test(53, "NONE: it is none (THE NUMBER stays).");
            told(x, "4321");
            Sentences.tell(x, none);
            doc.tapeHas(x, none.length());
            doc.due("number() of " + none, x.number(), NONE);
            doc.due("THE NUMBER stays", x.ofNumber(5), 4321);
            doc.tapeHas(x, 0);
        }
        SmoothNeighbours x = doc.test(53, "NONE: it is none (THE NUMBER stays).");
        x.feed(0x31000000, 0, 0, 0, 0);
        doc.due("number() of 1 and nineteen bytes 0", x.number(), NONE);
        doc.due("THE NUMBER of a new object stays", x.ofNumber(5), 1);
    }

    private static void inNumber(Sentences doc) {
        SmoothNeighbours x = doc.test(54, "POWER of a prime (one of the seven) in THE NUMBER (what 0),");
        doc.due("inNumber(2, 0) of 1", x.inNumber(2, 0), 0);
        told(x, "510510000");
        int[][] powers = {{2, 4}, {3, 1}, {5, 4}, {7, 1}, {11, 1}, {13, 1}, {17, 1}};
        for (int[] power : powers) {
            doc.due("inNumber(" + power[0] + ", 0)", x.inNumber(power[0], 0), power[1]);
        }
        told(x, BigInteger.TWO.pow(996).toString());
        doc.due("inNumber(2, 0) of 2 to the 996", x.inNumber(2, 0), 996);
        doc.due("inNumber(3, 0) of 2 to the 996", x.inNumber(3, 0), 0);
        doc.due("inNumber(2, 0) again", x.inNumber(2, 0), 996);
        told(x, BigInteger.valueOf(17).pow(243).toString());
        doc.due("inNumber(17, 0) of 17 to the 243", x.inNumber(17, 0), 243);
        SmoothNeighbours y = doc.test(54, "in it and 1 (1).");
        doc.due("inNumber(2, 1) of 1", y.inNumber(2, 1), 1);
        doc.due("inNumber(3, 1) of 1", y.inNumber(3, 1), 0);
        told(y, NINES);
        doc.due("inNumber(2, 1): 10 to the 300", y.inNumber(2, 1), 300);
        doc.due("inNumber(5, 1): 10 to the 300", y.inNumber(5, 1), 300);
        doc.due("inNumber(3, 1): 10 to the 300", y.inNumber(3, 1), 0);
        doc.due("inNumber(2, 0): nines", y.inNumber(2, 0), 0);
        told(y, "999999999");
        doc.due("inNumber(5, 1): 10 to the 9", y.inNumber(5, 1), 9);
        told(y, BigInteger.TWO.pow(996).subtract(BigInteger.ONE).toString());
        doc.due("inNumber(2, 1) of 2 to the 996 less 1", y.inNumber(2, 1), 996);
        SmoothNeighbours z = doc.test(54, "NONE for others.");
        doc.dueForAll("inNumber(p, 0)", new int[] {0, 1, 4, 19, 23, -1, -2, 258, LEAST, MOST}, p -> z.inNumber(p, 0), NONE);
        doc.dueForAll("inNumber(p, 1)", new int[] {0, 1, 4, 19, 23, -1, -2, 258, LEAST, MOST}, p -> z.inNumber(p, 1), NONE);
        doc.dueForAll("inNumber(2, w)", new int[] {2, 3, -1, LEAST, MOST}, what -> z.inNumber(2, what), NONE);
    }

    private static void ofNumber(Sentences doc) {
        SmoothNeighbours x = doc.test(55, "Of THE NUMBER n: 0 whether it is SMOOTH (1, 0),");
        doc.due("ofNumber(0) of 1", x.ofNumber(0), 1);
        doc.due("ofNumber(0) of 1 without primes", Sentences.of(0).ofNumber(0), 1);
        told(x, "10");
        doc.due("ofNumber(0) of 10", x.ofNumber(0), 0);
        x.add(5);
        doc.due("ofNumber(0) of 10 with 5", x.ofNumber(0), 1);
        told(x, "1" + "0".repeat(299));
        doc.due("ofNumber(0) of 10 to the 299", x.ofNumber(0), 1);
        told(x, "1" + "0".repeat(298) + "1");
        doc.due("ofNumber(0) of one more", x.ofNumber(0), 0);
        told(x, "1000000001");
        doc.due("ofNumber(0) of 10 to the 9 and 1", x.ofNumber(0), 0);
        SmoothNeighbours y = doc.test(55, "3 LENGTH of what is left of it without THE PRIMES,", 0);
        doc.due("ofNumber(3) of 1", y.ofNumber(3), 1);
        told(y, NINES);
        doc.due("ofNumber(3) of nines without primes", y.ofNumber(3), 300);
        y.choose(2);
        doc.due("ofNumber(3) of nines without 3", y.ofNumber(3), 299);
        y.choose(1);
        told(y, "1024");
        doc.due("ofNumber(3) of 1024: 1", y.ofNumber(3), 1);
        told(y, "20000000000");
        doc.due("ofNumber(3) of 5 to the 10", y.ofNumber(3), 7);
        SmoothNeighbours z = doc.test(55, "5 n mod 9973.");
        doc.due("ofNumber(5) of 1", z.ofNumber(5), 1);
        told(z, "9972");
        doc.due("ofNumber(5) of 9972", z.ofNumber(5), 9972);
        told(z, "9973");
        doc.due("ofNumber(5) of 9973", z.ofNumber(5), 0);
        told(z, "9974");
        doc.due("ofNumber(5) of 9974", z.ofNumber(5), 1);
        SmoothNeighbours others = doc.test(55, "NONE for others.");
        doc.dueForAll("ofNumber", new int[] {6, 7, -1, 256, LEAST, MOST}, others::ofNumber, NONE);
    }

    private static void ofNumberAndPairs(Sentences doc) {
        SmoothNeighbours x = doc.test(55, "1 the PAIR that it is the lesser one of (NONE),", THREE);
        doc.due("ofNumber(1) of 1", x.ofNumber(1), 0);
        doc.due("ofNumber(1) of 1 without primes", Sentences.of(0).ofNumber(1), NONE);
        told(x, "80");
        doc.due("ofNumber(1) of 80", x.ofNumber(1), 9);
        told(x, "81");
        doc.due("ofNumber(1) of 81, a greater one", x.ofNumber(1), NONE);
        told(x, "6");
        doc.due("ofNumber(1) of 6", x.ofNumber(1), NONE);
        x.add(7);
        doc.due("ofNumber(1) of 6 with 7", x.ofNumber(1), 5);
        told(x, NINES);
        doc.due("ofNumber(1) of nines", x.ofNumber(1), NONE);
        SmoothNeighbours y = doc.test(55, "2 the one of TWOS likewise (NONE),", THREE);
        doc.due("ofNumber(2) of 1", y.ofNumber(2), 0);
        told(y, "160");
        doc.due("ofNumber(2) of 160", y.ofNumber(2), 12);
        told(y, "162");
        doc.due("ofNumber(2) of 162, a greater one", y.ofNumber(2), NONE);
        told(y, NINES);
        doc.due("ofNumber(2) of nines", y.ofNumber(2), NONE);
        y.choose(1);
        told(y, "1");
        doc.due("ofNumber(2) of 1 without 3", y.ofNumber(2), NONE);
        SmoothNeighbours z = doc.test(55, "4 how many PAIRS have a lesser n,", THREE);
        doc.due("ofNumber(4) of 1", z.ofNumber(4), 0);
        told(z, "80");
        doc.due("ofNumber(4) of 80", z.ofNumber(4), 9);
        told(z, "81");
        doc.due("ofNumber(4) of 81", z.ofNumber(4), 10);
        told(z, NINES);
        doc.due("ofNumber(4) of nines", z.ofNumber(4), 10);
        z.choose(0);
        doc.due("ofNumber(4) without pairs", z.ofNumber(4), 0);
    }

    private static void proof(Sentences doc) {
        SmoothNeighbours x = doc.test(57, "THE PROOF is written: how many bytes.");
        doc.due("proof()", x.proof(), PROOF_OF_2_3.length());
        doc.due("the text", Sentences.written(x).equals(PROOF_OF_2_3), true);
        doc.due("proof() of 2", Sentences.of(1).proof(), PROOF_OF_TWO.length());
        doc.due("proof() without primes", Sentences.of(0).proof(), PROOF_OF_NONE.length());
        int longest = 0;
        for (int bits : Sentences.allSets()) {
            SmoothNeighbours y = doc.test(57, "how many bytes", bits);
            int length = y.proof();
            doc.due("the last byte of " + bits, y.octet(length - 1), '.');
            doc.due("the byte behind it of " + bits, y.octet(length), NONE);
            longest = Math.max(longest, length);
        }
        doc.due("the longest of all", longest, LONGEST);
    }

    private static void octet(Sentences doc) {
        SmoothNeighbours x = doc.test(58, "Byte k of THE PROOF written latest.");
        doc.due("proof()", x.proof(), 37);
        x.choose(1);
        doc.due("the latest stays, whatever the primes are", Sentences.written(x).equals(PROOF_OF_2_3), true);
        Sentences.tell(x, PROOF_OF_TWO);
        doc.due("proves()", x.proves(), NONE);
        doc.due("proves() writes none", x.octet(12), '3');
        doc.due("proof() of 2", x.proof(), 12);
        doc.due("the latest is that of 2", Sentences.written(x).equals(PROOF_OF_TWO), true);
        SmoothNeighbours y = doc.test(58, "NONE: there is none.");
        doc.dueForAll("octet ahead of a proof", new int[] {0, 1, -1, LEAST, MOST}, y::octet, NONE);
        y.proof();
        doc.due("octet(36)", y.octet(36), '.');
        doc.dueForAll("octet", new int[] {37, 38, 2048, -1, -37, LEAST, MOST}, y::octet, NONE);
        y.choose(0);
        y.proof();
        doc.due("octet(11) without primes", y.octet(11), '.');
        doc.due("octet(12), of the longer one ahead", y.octet(12), NONE);
    }

    private static void feed(Sentences doc) {
        SmoothNeighbours x = doc.test(59, "Twenty bytes come behind the tape, the highest of a first: how many it has.");
        doc.due("feed of digits", x.feed(0x31323334, 0x35363738, 0x39303132, 0x33343536, 0x37383930), 20);
        doc.due("number()", x.number(), 20);
        doc.due("12345678901234567890 mod 9973", x.ofNumber(5), 5282);
        x.feed(0x31323334, 0x35363738, 0x39303132, 0x33343536, 0x37383930);
        x.end(3);
        doc.due("feed behind three", x.feed(0x39383736, 0x35343332, 0x31303938, 0x37363534, 0x33323130), 23);
        doc.due("number()", x.number(), 23);
        doc.due("12398765432109876543210 mod 9973", x.ofNumber(5), 4944);
        SmoothNeighbours y = doc.test(59, "Twenty bytes come behind the tape");
        doc.due("feed of all that an int is", y.feed(LEAST, MOST, -1, 0, 1), 20);
        doc.due("feed again", y.feed(LEAST, MOST, -1, 0, 1), 40);
        doc.tapeHas(y, 40);
    }

    private static void fullTape(Sentences doc) {
        SmoothNeighbours x = doc.test(59, "NONE, and none come, if there would be more than 2000.");
        for (int many = 20; many <= 2000; many += 20) {
            doc.due("feed to " + many, x.feed(0x31313131, 0x31313131, 0x31313131, 0x31313131, 0x31313131), many);
        }
        doc.due("feed to 2020", x.feed(0x32323232, 0, 0, 0, 0), NONE);
        doc.tapeHas(x, 2000);
        doc.due("feed to 2020 again", x.feed(0x32323232, 0, 0, 0, 0), NONE);
        x.end(1981);
        doc.due("feed to 2001", x.feed(0x32323232, 0, 0, 0, 0), NONE);
        doc.tapeHas(x, 1981);
        x.end(1980);
        doc.due("feed to 2000", x.feed(0x32323232, 0, 0, 0, 0), 2000);
        x.end(300);
        doc.due("number() of the first 300", x.number(), 300);
        doc.due("feed behind number()", x.feed(0, 0, 0, 0, 0), 20);
    }

    private static void end(Sentences doc) {
        SmoothNeighbours x = doc.test(60, "The tape has its first n bytes alone: n.");
        Sentences.tell(x, "98765432101234567890123456789");
        doc.due("end(29), all", x.end(29), 29);
        doc.due("end(4)", x.end(4), 4);
        doc.due("number()", x.number(), 4);
        doc.due("the first four", x.ofNumber(5), 9876);
        doc.due("end(0) of an empty tape", x.end(0), 0);
        Sentences.tell(x, "12");
        doc.due("end(0)", x.end(0), 0);
        doc.tapeHas(x, 0);
        SmoothNeighbours y = doc.test(60, "NONE, and nothing is done, if it has not so many,");
        doc.dueForAll("end of an empty tape", new int[] {1, 2, 20, 2000, MOST}, y::end, NONE);
        Sentences.tell(y, "1234");
        doc.dueForAll("end of four bytes", new int[] {5, 6, 20, 2000, 2001, MOST}, y::end, NONE);
        doc.tapeHas(y, 4);
        doc.due("number()", y.number(), 4);
        doc.due("all four", y.ofNumber(5), 1234);
        y.feed(0, 0, 0, 0, 0);
        y.end(3);
        doc.due("end(4) behind end(3)", y.end(4), NONE);
        SmoothNeighbours z = doc.test(60, "or n is below 0.");
        doc.dueForAll("end of an empty tape", new int[] {-1, -2, LEAST, LEAST + 1}, z::end, NONE);
        Sentences.tell(z, "1234");
        doc.dueForAll("end of four bytes", new int[] {-1, -2, -4, LEAST, LEAST + 4}, z::end, NONE);
        doc.tapeHas(z, 4);
    }

    private static void proves(Sentences doc) {
        SmoothNeighbours x = doc.test(61, "The tape (empty then) is THE PROOF for THE PRIMES: NONE;");
        Sentences.tell(x, PROOF_OF_2_3);
        doc.due("proves()", x.proves(), NONE);
        doc.tapeHas(x, 0);
        x.choose(0);
        Sentences.tell(x, PROOF_OF_NONE);
        doc.due("proves() without primes", x.proves(), NONE);
        doc.tapeHas(x, 0);
        x.choose(1);
        Sentences.tell(x, PROOF_OF_2_3);
        doc.due("proves() of another proof", x.proves(), 8);
        SmoothNeighbours y = doc.test(61, "The tape (empty then) is THE PROOF for THE PRIMES: NONE;", LONG);
        Sentences.tell(y, longest());
        doc.tapeHas(y, LONGEST);
        doc.due("proves() of the longest", y.proves(), NONE);
        Sentences.tell(y, longest().substring(0, LONGEST - 1));
        doc.due("proves() of it without its last byte", y.proves(), LONGEST - 1);
    }

    /** More bytes than one object may be asked for. */
    private static String longest() {
        StringBuilder text = new StringBuilder();
        for (int from = 0; from < LONGEST; from += 500) {
            SmoothNeighbours x = Sentences.of(LONG);
            x.proof();
            for (int k = from; k < from + 500 && k < LONGEST; k++) {
                text.append((char) x.octet(k));
            }
        }
        return text.toString();
    }

    private static void provesNot(Sentences doc) {
        SmoothNeighbours x = doc.test(61, "else the first byte that is not so");
        for (int k = 0; k < PROOF_OF_TWO.length(); k++) {
            StringBuilder text = new StringBuilder(PROOF_OF_TWO);
            text.setCharAt(k, (char) (text.charAt(k) + 1));
            Sentences.tell(x, "");
            x.choose(1);
            Sentences.tell(x, text.toString());
            doc.due("proves() of another byte " + k, x.proves(), k);
            doc.tapeHas(x, 0);
        }
        for (String more : new String[] {".", "\u00ff", "\u0000", PROOF_OF_TWO}) {
            Sentences.tell(x, PROOF_OF_TWO + more);
            doc.due("proves() of one that goes on", x.proves(), 12);
            doc.tapeHas(x, 0);
        }
        Sentences.tell(x, "1:3,2;s;" + (char) ('3' + 128) + ";5.");
        doc.due("proves() of a byte above 127", x.proves(), 8);
        SmoothNeighbours y = doc.test(61, "(its length, if it ends too early).", 1);
        for (int length = 0; length < PROOF_OF_TWO.length(); length++) {
            Sentences.tell(y, PROOF_OF_TWO.substring(0, length));
            doc.due("proves() of the first " + length, y.proves(), length);
            doc.tapeHas(y, 0);
        }
        doc.due("proves() of an empty tape", y.proves(), 0);
    }
}
