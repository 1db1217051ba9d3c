import java.util.Arrays;

/** Neighbouring numbers that are made of told small primes alone, and how it is shown that these are all. */
public final class SmoothNeighbours {
    public static final int NONE = -1;

    private static final int NO_MEASURE = -100;
    private static final int NO_LEAVES = -1000000;
    private static final int NO_WITNESS = -2;
    private static final int FIRST_PRIMES = 3;
    private static final int MOST_PRIMES = 5;
    private static final int SETS = 128;
    private static final int MEASURES = 9;
    /** The greatest BOUND there is, that of 17. */
    private static final int LAST_INDEX = 9;
    private static final int SIEVE_END = 200000;
    private static final int SUMS_END = 3000;
    private static final int LAST_MODULUS = 10000;
    private static final int LAST_POWER = 60;
    private static final int LAST_ENTRY = 200;
    private static final int LAST_GREAT = 400;
    private static final int NUMBER_DIGITS = 300;
    private static final int NUMBER_LIMBS = 36;
    private static final int FED_BYTES = 20;
    private static final int TAPE_BYTES = 2000;
    /** The longest proof of all, that of 2, 3, 5, 7, 17, is 1,138 bytes long. */
    private static final int PROOF_BYTES = 2048;

    private final Search neighbours = new Search(1);
    private final Search twoApart = new Search(2);
    private final Smooths smooths = new Smooths();
    private final Greats greats = new Greats();
    private final Ranking ranking = new Ranking();
    private final Fraction fraction = new Fraction();
    private final Text tape = new Text(TAPE_BYTES);
    private final Text writtenProof = new Text(PROOF_BYTES);
    private final Text dueProof = new Text(PROOF_BYTES);
    private final Big told = new Big(NUMBER_LIMBS);
    private final Big spare = new Big(NUMBER_LIMBS);
    private int primes = FIRST_PRIMES;

    public SmoothNeighbours() {
        told.setTo(1);
        neighbours.fill(FIRST_PRIMES);
    }

    // ---------------------------------------------------------------- the primes

    public int add(int prime) {
        if (!canCome(prime)) {
            return NONE;
        }
        primes |= Primes.bitOf(prime);
        return neighbours.fill(primes).found;
    }

    public int drop(int prime) {
        if (!Primes.has(primes, prime)) {
            return NONE;
        }
        primes &= ~Primes.bitOf(prime);
        return neighbours.fill(primes).found;
    }

    public int choose(int bits) {
        if (bits < 0 || bits >= SETS || Integer.bitCount(bits) > MOST_PRIMES) {
            return NONE;
        }
        primes = bits;
        return neighbours.fill(primes).found;
    }

    public int is(int what) {
        switch (what) {
            case 0:
                return primes;
            case 1:
                return Integer.bitCount(primes);
            case 2:
                return neighbours.classes;
            case 3:
                return neighbours.bound;
            case 4:
                return neighbours.found;
            case 5:
                return neighbours.runsOfThree();
            case 6:
                return Primes.greatest(primes);
            case 7:
                return neighbours.found == 0 ? 0 : neighbours.coupleAt(neighbours.found - 1).low.digits();
            case 8:
                return neighbours.negatives();
            case 9:
                return neighbours.classesWithCouples();
            case 10:
                return neighbours.allRounds();
            default:
                return NONE;
        }
    }

    // ---------------------------------------------------------------- the classes

    public int of(int theClass, int what) {
        if (!neighbours.isClass(theClass)) {
            return NONE;
        }
        Unit unit = neighbours.unitAt(theClass);
        switch (what) {
            case 0:
                return unit.q;
            case 1:
                return unit.square;
            case 2:
                return unit.root;
            case 3:
                return unit.round;
            case 4:
                return unit.isNegative() ? 1 : 0;
            case 5:
                return Integer.bitCount(neighbours.indexesOf(theClass));
            case 6:
                return unit.x.digits();
            case 7:
                return unit.y.digits();
            case 8:
                return neighbours.indexesOf(theClass);
            default:
                return NONE;
        }
    }

    public int step(int theClass, int k) {
        return isStep(theClass, k) ? fraction.wholeBehind(squareOf(theClass), k) : NONE;
    }

    public int unit(int theClass, int what, int k) {
        if (!neighbours.isClass(theClass) || !isOneOfTwo(what)) {
            return NONE;
        }
        Unit unit = neighbours.unitAt(theClass);
        return (what == 0 ? unit.x : unit.y).digitAt(k);
    }

    public int power(int theClass, int i, int m) {
        if (!neighbours.isClass(theClass) || i < 0 || i > LAST_POWER || !isModulus(m)) {
            return NONE;
        }
        return neighbours.unitAt(theClass).powerLeft(i, m);
    }

    public int powerLong(int theClass, int i) {
        if (!neighbours.isClass(theClass) || i < 0 || i > neighbours.bound) {
            return NONE;
        }
        return neighbours.unitAt(theClass).powerDigits(i);
    }

    public int half(int theClass, int what, int k) {
        if (!neighbours.isClass(theClass) || !neighbours.unitAt(theClass).isNegative() || !isOneOfTwo(what)) {
            return NONE;
        }
        fraction.walkRound(squareOf(theClass));
        return (what == 0 ? fraction.p : fraction.r).digitAt(k);
    }

    public int leaves(int theClass, int k) {
        return isStep(theClass, k) ? fraction.leftBehind(squareOf(theClass), k) : NO_LEAVES;
    }

    public int nearing(int theClass, int k, int what, int m) {
        if (!isStep(theClass, k) || !isOneOfTwo(what) || !isModulus(m)) {
            return NONE;
        }
        return fraction.nearingModulo(squareOf(theClass), k, what == 0, m);
    }

    public int middle(int theClass) {
        if (!neighbours.isClass(theClass) || neighbours.unitAt(theClass).isNegative()) {
            return NONE;
        }
        return fraction.divisorBehind(squareOf(theClass), neighbours.unitAt(theClass).round / 2);
    }

    public int least(int theClass, int n) {
        if (!neighbours.isClass(theClass) || n < -1000 || n > 1000) {
            return NONE;
        }
        long square = squareOf(theClass);
        for (int y = 1; y <= 3000; y++) {
            if (Primes.isSquare(square * y * y + n)) {
                return y;
            }
        }
        return NONE;
    }

    public int witness(int theClass, int i) {
        boolean is = neighbours.isClass(theClass) && i >= 1 && i <= neighbours.bound;
        return is ? neighbours.unitAt(theClass).witnessFor(i, primes) : NONE;
    }

    public int entry(int theClass, int prime) {
        boolean is = neighbours.isClass(theClass) && prime <= 97 && Primes.isPrime(prime);
        return is ? neighbours.unitAt(theClass).firstEntry(prime) : NONE;
    }

    // ---------------------------------------------------------------- the pairs

    public int digit(int pair, int k) {
        return neighbours.isCouple(pair) ? neighbours.coupleAt(pair).low.digitAt(k) : NONE;
    }

    public int left(int pair, int m) {
        boolean is = neighbours.isCouple(pair) && isModulus(m);
        return is ? neighbours.coupleAt(pair).low.remainder(m) : NONE;
    }

    public int small(int pair) {
        return neighbours.smallAt(pair);
    }

    public int measure(int pair, int measure) {
        boolean is = neighbours.isCouple(pair) && isMeasure(measure);
        return is ? neighbours.measureOf(pair, measure) : NO_MEASURE;
    }

    public int inPair(int pair, int prime, int what) {
        if (!neighbours.isCouple(pair) || !Primes.has(primes, prime) || !isOneOfTwo(what)) {
            return NONE;
        }
        Couple couple = neighbours.coupleAt(pair);
        int place = Primes.placeOf(prime);
        return what == 0 ? couple.lowPower(place) : couple.highPower(place);
    }

    public int order(int measure, int other, int place) {
        if (!isMeasure(measure) || !isMeasure(other) || !neighbours.isCouple(place)) {
            return NONE;
        }
        return ranking.placed(neighbours, measure, other, place);
    }

    public int count(int measure, int low, int high) {
        if (!isMeasure(measure)) {
            return NONE;
        }
        int many = 0;
        for (int pair = 0; pair < neighbours.found; pair++) {
            int value = neighbours.measureOf(pair, measure);
            many += value >= low && value <= high ? 1 : 0;
        }
        return many;
    }

    public int top(int measure) {
        if (!isMeasure(measure) || neighbours.found == 0) {
            return NONE;
        }
        int best = 0;
        for (int pair = 1; pair < neighbours.found; pair++) {
            if (neighbours.measureOf(pair, measure) > neighbours.measureOf(best, measure)) {
                best = pair;
            }
        }
        return best;
    }

    public int below(int e) {
        if (e < 0 || e > 400) {
            return NONE;
        }
        int many = 0;
        for (int pair = 0; pair < neighbours.found; pair++) {
            many += neighbours.coupleAt(pair).low.digits() <= e ? 1 : 0;
        }
        return many;
    }

    public int run(int i, int what) {
        int first = neighbours.startOfRun(i);
        if (first == NONE || !isOneOfTwo(what)) {
            return NONE;
        }
        return what == 0 ? first : neighbours.numbersInRun(first);
    }

    public int rank(int many) {
        return many >= 0 && many <= neighbours.found ? ranking.rankOf(neighbours, many) : NONE;
    }

    public int madeOf(int pair) {
        return neighbours.isCouple(pair) ? neighbours.coupleAt(pair).made : NONE;
    }

    public int madeBy(int set) {
        int many = 0;
        for (int pair = 0; pair < neighbours.found; pair++) {
            many += neighbours.coupleAt(pair).made == set ? 1 : 0;
        }
        return many;
    }

    public int share(int prime) {
        if (!Primes.has(primes, prime)) {
            return NONE;
        }
        int many = 0;
        for (int pair = 0; pair < neighbours.found; pair++) {
            many += Primes.has(neighbours.coupleAt(pair).made, prime) ? 1 : 0;
        }
        return many;
    }

    public int threes() {
        int many = 0;
        for (int pair = 0; pair < neighbours.found; pair++) {
            many += neighbours.goesOn(pair) ? 1 : 0;
        }
        return many;
    }

    public int meanLength() {
        if (neighbours.found == 0) {
            return 0;
        }
        int all = 0;
        for (int pair = 0; pair < neighbours.found; pair++) {
            all += neighbours.coupleAt(pair).low.digits();
        }
        return floatBits((float) all / (float) neighbours.found);
    }

    // ---------------------------------------------------------------- other sets of primes

    public int would(int prime) {
        return canCome(prime) ? neighbours.couplesFor(primes | Primes.bitOf(prime)) : NONE;
    }

    public int without(int prime) {
        return Primes.has(primes, prime) ? neighbours.couplesFor(primes & ~Primes.bitOf(prime)) : NONE;
    }

    public int bestPrime() {
        int best = NONE;
        int most = NONE;
        for (int place = 0; place < Primes.SEVEN; place++) {
            int prime = Primes.at(place);
            int many = canCome(prime) ? neighbours.couplesFor(primes | Primes.bitOf(prime)) : NONE;
            if (many > most) {
                most = many;
                best = prime;
            }
        }
        return best;
    }

    public int growth(int k) {
        boolean is = k >= 0 && k <= Integer.bitCount(primes);
        return is ? neighbours.couplesFor(Primes.lowest(primes, k)) : NONE;
    }

    // ---------------------------------------------------------------- smooth numbers one by one

    public boolean smooth(int n) {
        if (n < 1) {
            return false;
        }
        int rest = n;
        for (int place = 0; place < Primes.SEVEN; place++) {
            int prime = Primes.at(place);
            boolean counts = prime > 1 && Primes.has(primes, prime);
            for (int times = 0; counts && times < 31 && rest % prime == 0; times++) {
                rest /= prime;
            }
        }
        return rest == 1;
    }

    public int smoothUpTo(int n) {
        return isUpToSieveEnd(n) ? smooths.fill(primes).placeAbove(n) : NONE;
    }

    public int smoothAt(int k) {
        return smooths.fill(primes).valueAt(k);
    }

    public int next(int n) {
        return isUpToSieveEnd(n) ? smooths.fill(primes).valueAbove(n) : NONE;
    }

    public int sieved(int upTo) {
        return isUpToSieveEnd(upTo) ? smooths.fill(primes).couplesUpTo(1, upTo) : NONE;
    }

    public boolean agrees(int upTo) {
        return isUpToSieveEnd(upTo) && smooths.fill(primes).saysTheSame(neighbours, upTo);
    }

    public int gap(int upTo, int what) {
        boolean is = isUpToSieveEnd(upTo) && isOneOfTwo(what);
        return is ? smooths.fill(primes).widest(upTo, what == 0) : NONE;
    }

    public int apart(int d, int upTo) {
        boolean is = d >= 1 && d <= 1000 && isUpToSieveEnd(upTo);
        return is ? smooths.fill(primes).couplesUpTo(d, upTo) : NONE;
    }

    public int sums(int upTo, int what) {
        boolean is = upTo >= 0 && upTo <= SUMS_END && isOneOfTwo(what);
        return is ? smooths.fill(primes).sumsUpTo(upTo, what == 1) : NONE;
    }

    public long thick(int n) {
        if (n < 1 || n > SIEVE_END) {
            return 0;
        }
        return doubleBits((double) smooths.fill(primes).placeAbove(n) / (double) n);
    }

    public int greatLong(int k) {
        return greats.reaches(k, primes) ? greats.shown(k).digits() : NONE;
    }

    public int greatDigit(int k, int d) {
        return greats.reaches(k, primes) ? greats.shown(k).digitAt(d) : NONE;
    }

    // ---------------------------------------------------------------- numbers that are two apart

    public int twos() {
        return twoApart.fill(primes).found;
    }

    public int twoClasses() {
        return twoApart.fill(primes).classes;
    }

    public int twoClass(int theClass, int what) {
        if (!twoApart.fill(primes).isClass(theClass)) {
            return NONE;
        }
        Unit unit = twoApart.unitAt(theClass);
        switch (what) {
            case 0:
                return unit.q;
            case 1:
                return unit.root;
            case 2:
                return unit.round;
            case 3:
                return unit.x.digits();
            case 4:
                return unit.y.digits();
            case 5:
                return Integer.bitCount(twoApart.indexesOf(theClass));
            default:
                return NONE;
        }
    }

    public int two(int i, int what) {
        if (!twoApart.fill(primes).isCouple(i)) {
            return NONE;
        }
        Couple couple = twoApart.coupleAt(i);
        switch (what) {
            case 0:
                return couple.low.digits();
            case 1:
                return couple.family;
            case 2:
                return couple.index;
            case 3:
                return couple.low.remainder(10000);
            case 4:
                return couple.low.asInt();
            default:
                return NONE;
        }
    }

    public int twoDigit(int i, int k) {
        return twoApart.fill(primes).isCouple(i) ? twoApart.coupleAt(i).low.digitAt(k) : NONE;
    }

    public boolean twosAgree(int upTo) {
        return isUpToSieveEnd(upTo) && smooths.fill(primes).saysTheSame(twoApart.fill(primes), upTo);
    }

    // ---------------------------------------------------------------- the tape, the number, the proof

    public int feed(int a, int b, int c, int d, int e) {
        if (!tape.hasRoomFor(FED_BYTES)) {
            return NONE;
        }
        tape.appendFour(a);
        tape.appendFour(b);
        tape.appendFour(c);
        tape.appendFour(d);
        tape.appendFour(e);
        return tape.length;
    }

    public int end(int n) {
        return tape.cutTo(n) ? n : NONE;
    }

    public int number() {
        int digits = tape.isNumber(NUMBER_DIGITS) ? tape.length : NONE;
        if (digits != NONE) {
            told.setTo(0);
            for (int k = 0; k < digits; k++) {
                told.multiply(10);
                told.increase(tape.byteAt(k) - '0');
            }
        }
        tape.cutTo(0);
        return digits;
    }

    public int inNumber(int prime, int what) {
        if (Primes.placeOf(prime) == NONE || !isOneOfTwo(what)) {
            return NONE;
        }
        spare.copy(told);
        spare.increase(what);
        return spare.strip(prime);
    }

    public int ofNumber(int what) {
        switch (what) {
            case 0:
                return restOfNumber().asInt() == 1 ? 1 : 0;
            case 1:
                return neighbours.placeOf(told);
            case 2:
                return twoApart.fill(primes).placeOf(told);
            case 3:
                return restOfNumber().digits();
            case 4:
                return neighbours.lessThan(told);
            case 5:
                return told.remainder(9973);
            default:
                return NONE;
        }
    }

    public int proof() {
        writeProof(writtenProof);
        return writtenProof.length;
    }

    public int octet(int k) {
        return writtenProof.byteAt(k);
    }

    public int proves() {
        writeProof(dueProof);
        int wrong = dueProof.firstUnlike(tape);
        tape.cutTo(0);
        return wrong;
    }

    // ---------------------------------------------------------------- what the calls share

    private boolean canCome(int prime) {
        return Primes.placeOf(prime) != NONE && !Primes.has(primes, prime)
                && Integer.bitCount(primes) < MOST_PRIMES;
    }

    private boolean isStep(int theClass, int k) {
        return neighbours.isClass(theClass) && k >= 0 && k <= 2 * neighbours.unitAt(theClass).round;
    }

    private int squareOf(int theClass) {
        return neighbours.unitAt(theClass).square;
    }

    private static boolean isOneOfTwo(int what) {
        return what == 0 || what == 1;
    }

    private static boolean isModulus(int m) {
        return m >= 2 && m <= LAST_MODULUS;
    }

    private static boolean isMeasure(int measure) {
        return measure >= 0 && measure < MEASURES;
    }

    private static boolean isUpToSieveEnd(int n) {
        return n >= 0 && n <= SIEVE_END;
    }

    /** What is left of the number without the primes. */
    private Big restOfNumber() {
        spare.copy(told);
        for (int place = 0; place < Primes.SEVEN; place++) {
            int prime = Primes.at(place);
            if (Primes.has(primes, prime)) {
                spare.strip(prime);
            }
        }
        return spare;
    }

    private void writeProof(Text text) {
        text.cutTo(0);
        for (int k = 0; k < neighbours.classes; k++) {
            Unit unit = neighbours.unitAt(k);
            text.appendInt(unit.q);
            text.append(':');
            text.appendBig(unit.x);
            text.append(',');
            text.appendBig(unit.y);
            for (int i = 1; i <= neighbours.bound; i++) {
                text.append(';');
                appendWitness(text, unit.witnessFor(i, primes));
            }
            text.append('.');
        }
    }

    private static void appendWitness(Text text, int witness) {
        if (witness == 0) {
            text.append('s');
        } else if (witness == NO_WITNESS) {
            text.append('?');
        } else {
            text.appendInt(witness);
        }
    }

    /** The bits of a float from 1 on, found by halving alone, which loses nothing. */
    private static int floatBits(float value) {
        float rest = value;
        int exponent = 127;
        for (int times = 0; times < 127 && rest >= 2; times++) {
            rest /= 2;
            exponent++;
        }
        return (exponent << 23) | (int) ((rest - 1) * (1 << 23));
    }

    /** The bits of a double above 0 and up to 1, found by doubling alone, which loses nothing. */
    private static long doubleBits(double value) {
        double rest = value;
        long exponent = 1023;
        for (int times = 0; times < 1000 && rest < 1; times++) {
            rest *= 2;
            exponent--;
        }
        return (exponent << 52) | (long) ((rest - 1) * (1L << 52));
    }

    /** Primes below 1000, sets of the first seven of them as bits, and what is asked of single numbers. */
    private static final class Primes {
        static final int SEVEN = 7;
        static final int MANY = 168;

        private static final int[] LIST = {
            2, 3, 5, 7, 11, 13, 17, 19, 23, 29, 31, 37, 41, 43, 47, 53, 59, 61, 67, 71, 73, 79, 83, 89, 97,
            101, 103, 107, 109, 113, 127, 131, 137, 139, 149, 151, 157, 163, 167, 173, 179, 181, 191, 193, 197, 199,
            211, 223, 227, 229, 233, 239, 241, 251, 257, 263, 269, 271, 277, 281, 283, 293,
            307, 311, 313, 317, 331, 337, 347, 349, 353, 359, 367, 373, 379, 383, 389, 397,
            401, 409, 419, 421, 431, 433, 439, 443, 449, 457, 461, 463, 467, 479, 487, 491, 499,
            503, 509, 521, 523, 541, 547, 557, 563, 569, 571, 577, 587, 593, 599,
            601, 607, 613, 617, 619, 631, 641, 643, 647, 653, 659, 661, 673, 677, 683, 691,
            701, 709, 719, 727, 733, 739, 743, 751, 757, 761, 769, 773, 787, 797,
            809, 811, 821, 823, 827, 829, 839, 853, 857, 859, 863, 877, 881, 883, 887,
            907, 911, 919, 929, 937, 941, 947, 953, 967, 971, 977, 983, 991, 997
        };

        /** A prime by its place; 1 where there is none. */
        static int at(int place) {
            return place >= 0 && place < LIST.length ? LIST[place] : 1;
        }

        static boolean isPrime(int n) {
            for (int place = 0; place < LIST.length; place++) {
                if (LIST[place] == n) {
                    return true;
                }
            }
            return false;
        }

        /** The place of one of the seven. */
        static int placeOf(int prime) {
            for (int place = 0; place < SEVEN; place++) {
                if (at(place) == prime) {
                    return place;
                }
            }
            return NONE;
        }

        static int bitOf(int prime) {
            int place = placeOf(prime);
            return place == NONE ? 0 : 1 << place;
        }

        static boolean has(int set, int prime) {
            return (set & bitOf(prime)) != 0;
        }

        static int leastOf(int set) {
            for (int place = 0; place < SEVEN; place++) {
                if ((set >> place & 1) == 1) {
                    return at(place);
                }
            }
            return NONE;
        }

        /** 0 for no primes. */
        static int greatest(int set) {
            int best = 0;
            for (int place = 0; place < SEVEN; place++) {
                best = (set >> place & 1) == 1 ? at(place) : best;
            }
            return best;
        }

        static int boundOf(int set) {
            return Math.max(3, (greatest(set) + 1) / 2);
        }

        static int product(int set) {
            int all = 1;
            for (int place = 0; place < SEVEN; place++) {
                all *= (set >> place & 1) == 1 ? at(place) : 1;
            }
            return all;
        }

        static int lowest(int set, int many) {
            int chosen = 0;
            for (int place = 0; place < SEVEN && Integer.bitCount(chosen) < many; place++) {
                chosen |= set & 1 << place;
            }
            return chosen;
        }

        static long rootOf(long n) {
            long root = 0;
            for (long bit = 1L << 30; bit > 0; bit >>= 1) {
                if ((root | bit) * (root | bit) <= n) {
                    root |= bit;
                }
            }
            return root;
        }

        static boolean isSquare(long n) {
            long root = rootOf(n);
            return root * root == n;
        }
    }

    /** A whole number from 0 on, as long as its row of limbs to the base 10 to the 9; the top limb is not 0. */
    private static final class Big {
        private static final int BASE = 1000000000;
        private static final int LIMB_DIGITS = 9;

        private final int[] limbs;
        private int size;

        Big(int capacity) {
            limbs = new int[capacity > 0 ? capacity : 1];
        }

        /** Takes a value below the base. */
        void setTo(int value) {
            size = value > 0 && limbs.length > 0 ? 1 : 0;
            if (size == 1) {
                limbs[0] = value;
            }
        }

        void copy(Big other) {
            size = Math.min(other.size, limbs.length);
            for (int i = 0; i < size && i < limbs.length; i++) {
                limbs[i] = other.limbAt(i);
            }
        }

        void load(int[] row, int from, int many) {
            size = 0;
            for (int i = 0; i < many && i < limbs.length && from >= 0 && from < row.length - i; i++) {
                limbs[i] = row[from + i];
                size = i + 1;
            }
        }

        /** Puts the limbs into a row: how many. */
        int store(int[] row, int from) {
            for (int i = 0; i < size && i < limbs.length && from >= 0 && from < row.length - i; i++) {
                row[from + i] = limbs[i];
            }
            return size;
        }

        void multiply(int factor) {
            long carry = 0;
            for (int i = 0; i < limbs.length && (i < size || carry > 0); i++) {
                long sum = carry + (long) limbAt(i) * factor;
                limbs[i] = (int) (sum % BASE);
                carry = sum / BASE;
                size = Math.max(size, i + 1);
            }
        }

        /** This is a times b; neither of them may be this. */
        void setProduct(Big a, Big b) {
            size = Math.min(a.size + b.size, limbs.length);
            Arrays.fill(limbs, 0);
            for (int i = 0; i < a.size; i++) {
                long factor = a.limbAt(i);
                long carry = 0;
                for (int j = 0; j <= b.size && i + j < limbs.length; j++) {
                    long sum = factor * b.limbAt(j) + limbs[i + j] + carry;
                    limbs[i + j] = (int) (sum % BASE);
                    carry = sum / BASE;
                }
            }
            trim();
        }

        void plus(Big other) {
            int carry = 0;
            for (int i = 0; i < limbs.length && (i < size || i < other.size || carry > 0); i++) {
                int sum = carry + limbAt(i) + other.limbAt(i);
                limbs[i] = sum % BASE;
                carry = sum / BASE;
                size = Math.max(size, i + 1);
            }
        }

        /** Takes off a number that is not greater than this. */
        void minus(Big other) {
            int borrow = 0;
            for (int i = 0; i < size && i < limbs.length; i++) {
                int difference = limbs[i] - other.limbAt(i) - borrow;
                borrow = difference < 0 ? 1 : 0;
                limbs[i] = difference + borrow * BASE;
            }
            trim();
        }

        void increase(int by) {
            int carry = by;
            for (int i = 0; i < limbs.length && carry > 0; i++) {
                int sum = limbAt(i) + carry;
                limbs[i] = sum % BASE;
                carry = sum / BASE;
                size = Math.max(size, i + 1);
            }
        }

        /** Takes 1 off, if there is any. */
        void decrease() {
            int borrow = 1;
            for (int i = 0; i < size && i < limbs.length && borrow > 0; i++) {
                borrow = limbs[i] == 0 ? 1 : 0;
                limbs[i] = borrow == 1 ? BASE - 1 : limbs[i] - 1;
            }
            trim();
        }

        /** This becomes so many times itself and the one ahead, which becomes what this was. */
        void follow(int times, Big ahead) {
            int was = size;
            long carry = 0;
            for (int i = 0; i < limbs.length && i < ahead.limbs.length && (i < was || carry > 0); i++) {
                int mine = limbAt(i);
                long sum = carry + (long) mine * times + ahead.limbAt(i);
                ahead.limbs[i] = mine;
                limbs[i] = (int) (sum % BASE);
                carry = sum / BASE;
                size = Math.max(size, i + 1);
            }
            ahead.size = Math.min(was, ahead.limbs.length);
        }

        void divide(int divisor) {
            long rest = 0;
            for (int i = Math.min(size, limbs.length) - 1; i >= 0 && divisor > 0; i--) {
                long part = rest * BASE + limbs[i];
                limbs[i] = (int) (part / divisor);
                rest = part % divisor;
                if (limbs[i] == 0 && i == size - 1) {
                    size = i;
                }
            }
        }

        int remainder(int divisor) {
            long rest = 0;
            for (int i = Math.min(size, limbs.length) - 1; i >= 0 && divisor > 0; i--) {
                rest = (rest * BASE + limbs[i]) % divisor;
            }
            return (int) rest;
        }

        /** Divides by a prime as often as it goes: how often. */
        int strip(int prime) {
            int times = 0;
            for (int guard = 0; guard < limbs.length * 30 && size > 0 && prime > 1; guard++) {
                if (remainder(prime) != 0) {
                    break;
                }
                divide(prime);
                times++;
            }
            return times;
        }

        int compareWith(Big other) {
            if (size != other.size) {
                return size < other.size ? -1 : 1;
            }
            for (int i = size - 1; i >= 0; i--) {
                int mine = limbAt(i);
                int its = other.limbAt(i);
                if (mine != its) {
                    return mine < its ? -1 : 1;
                }
            }
            return 0;
        }

        int limbCount() {
            return size;
        }

        int digits() {
            int many = 1;
            for (int rest = limbAt(size - 1); rest >= 10; rest /= 10) {
                many++;
            }
            return size < 1 ? 1 : (size - 1) * LIMB_DIGITS + many;
        }

        int digitAt(int k) {
            if (k < 0 || k >= digits()) {
                return NONE;
            }
            int limb = limbAt(k / LIMB_DIGITS);
            for (int i = k % LIMB_DIGITS; i > 0; i--) {
                limb /= 10;
            }
            return limb % 10;
        }

        /** The number, if it is below 10 to the 9; else NONE. */
        int asInt() {
            return size > 1 ? NONE : limbAt(0);
        }

        private int limbAt(int i) {
            return i >= 0 && i < size && i < limbs.length ? limbs[i] : 0;
        }

        private void trim() {
            for (int i = Math.min(size, limbs.length) - 1; i >= 0 && limbs[i] == 0; i--) {
                size = i;
            }
        }
    }

    /** The fraction of a square root, walked step by step. */
    private static final class Fraction {
        private static final int MOST_STEPS = 1000000;
        private static final int LIMBS = 8;

        final Big p = new Big(LIMBS);
        final Big r = new Big(LIMBS);
        private final Big pAhead = new Big(LIMBS);
        private final Big rAhead = new Big(LIMBS);
        private int square;
        private int root;
        private int m;
        private int d;
        private int a;

        private void begin(int ofSquare) {
            square = ofSquare;
            root = (int) Primes.rootOf(ofSquare);
            m = 0;
            d = 1;
            a = root;
        }

        private void advance() {
            m = d * a - m;
            d = d == 0 ? 0 : (square - m * m) / d;
            a = d == 0 ? 0 : (root + m) / d;
        }

        private void walk(int ofSquare, int steps) {
            begin(ofSquare);
            for (int k = 0; k < steps && k < MOST_STEPS; k++) {
                advance();
            }
        }

        /** Leaves in p and r the nearing one ahead of the step that ends the first round: the round. */
        int walkRound(int ofSquare) {
            begin(ofSquare);
            pAhead.setTo(1);
            rAhead.setTo(0);
            p.setTo(root);
            r.setTo(1);
            for (int steps = 1; steps < MOST_STEPS; steps++) {
                advance();
                if (d == 1) {
                    return steps;
                }
                p.follow(a, pAhead);
                r.follow(a, rAhead);
            }
            return 1;
        }

        int wholeBehind(int ofSquare, int steps) {
            walk(ofSquare, steps);
            return a;
        }

        int divisorBehind(int ofSquare, int steps) {
            walk(ofSquare, steps);
            return d;
        }

        int nearingModulo(int ofSquare, int steps, boolean isOfP, int modulus) {
            if (modulus < 1) {
                return NONE;
            }
            begin(ofSquare);
            long ahead = isOfP ? 1 : 0;
            long latest = (isOfP ? root : 1) % modulus;
            for (int k = 0; k < steps && k < MOST_STEPS; k++) {
                advance();
                long following = (a * latest + ahead) % modulus;
                ahead = latest;
                latest = following;
            }
            return (int) latest;
        }

        /** What is left is below twice the root, so longs that wrap around have it right, long as p and r are. */
        int leftBehind(int ofSquare, int steps) {
            begin(ofSquare);
            long above = 1;
            long below = 0;
            long top = root;
            long bottom = 1;
            for (int k = 0; k < steps && k < MOST_STEPS; k++) {
                advance();
                long nextTop = a * top + above;
                long nextBottom = a * bottom + below;
                above = top;
                below = bottom;
                top = nextTop;
                bottom = nextBottom;
            }
            return (int) (top * top - ofSquare * bottom * bottom);
        }
    }

    /** A class: its square, its unit, and what holds of the unit's powers whatever the primes are. */
    private static final class Unit {
        private static final int LIMBS = 8;

        final Big x = new Big(LIMBS);
        final Big y = new Big(LIMBS);
        final int q;
        final int square;
        final int root;
        final int round;
        /** All by the index of a power: its length, which of the seven primes divide n or the number that
         *  goes with it, the least greater prime that does (0: not asked yet), the two if they are smooth. */
        private final int[] lengths = new int[LAST_INDEX + 1];
        private final int[] divisors = new int[LAST_INDEX + 1];
        private final int[] beyond = new int[LAST_INDEX + 1];
        private final Couple[] couples = new Couple[LAST_INDEX + 1];

        Unit(int ofQ, int ofSquare, Fraction fraction) {
            q = ofQ;
            square = ofSquare;
            root = (int) Primes.rootOf(ofSquare);
            round = fraction.walkRound(ofSquare);
            if (round % 2 == 0) {
                x.copy(fraction.p);
                y.copy(fraction.r);
            } else {
                y.setProduct(fraction.r, fraction.r);
                y.multiply(ofSquare);
                x.setProduct(fraction.p, fraction.p);
                x.plus(y);
                y.setProduct(fraction.p, fraction.r);
                y.multiply(2);
            }
        }

        boolean isNegative() {
            return round % 2 == 1;
        }

        void note(int i, int length, int dividing, Couple couple) {
            if (i >= 0 && i < lengths.length && i < divisors.length && i < couples.length) {
                lengths[i] = length;
                divisors[i] = dividing;
                couples[i] = couple;
            }
        }

        int powerDigits(int i) {
            return i > 0 && i < lengths.length ? lengths[i] : 1;
        }

        /** The couple of an index, if these primes are enough for it; else null. */
        Couple coupleFor(int i, int primes) {
            Couple couple = i >= 0 && i < couples.length ? couples[i] : null;
            return couple != null && (couple.made & ~primes) == 0 ? couple : null;
        }

        int indexesFor(int primes) {
            int bound = Primes.boundOf(primes);
            int indexes = 0;
            for (int i = 1; i <= bound; i++) {
                indexes |= coupleFor(i, primes) != null ? 1 << i - 1 : 0;
            }
            return indexes;
        }

        int witnessFor(int i, int primes) {
            if (i < 1 || i >= beyond.length || i >= divisors.length) {
                return NONE;
            }
            int others = divisors[i] & ~primes;
            if (others != 0) {
                return Primes.leastOf(others);
            }
            if (coupleFor(i, primes) != null) {
                return 0;
            }
            if (beyond[i] == 0) {
                beyond[i] = greaterDivisor(i);
            }
            return beyond[i];
        }

        /** The power is odd: what twice s leaves of it tells what s leaves of its half, downward. */
        private int greaterDivisor(int i) {
            for (int place = Primes.SEVEN; place < Primes.MANY; place++) {
                int s = Primes.at(place);
                int low = (powerLeft(i, 2 * s) - 1) / 2;
                if (s > 1 && (low % s == 0 || (low + 1) % s == 0)) {
                    return s;
                }
            }
            return NO_WITNESS;
        }

        int powerLeft(int i, int modulus) {
            if (modulus < 2 || i < 1) {
                return 1;
            }
            long first = x.remainder(modulus);
            long before = 1;
            long now = first;
            for (int k = 1; k < i && k < LAST_POWER; k++) {
                long after = Math.floorMod(2 * first * now - before, (long) modulus);
                before = now;
                now = after;
            }
            return (int) now;
        }

        int firstEntry(int prime) {
            if (prime < 2) {
                return NONE;
            }
            long first = x.remainder(prime);
            long before = 0;
            long now = y.remainder(prime);
            for (int i = 1; i <= LAST_ENTRY; i++) {
                if (now == 0) {
                    return i;
                }
                long after = Math.floorMod(2 * first * now - before, (long) prime);
                before = now;
                now = after;
            }
            return NONE;
        }
    }

    /** Two smooth numbers that were found: the lesser one, its index, the powers of the seven primes in both. */
    private static final class Couple {
        final Big low;
        final int index;
        final int made;
        private final int[] lowPowers = new int[Primes.SEVEN];
        private final int[] highPowers = new int[Primes.SEVEN];
        /** Its class, which goes with the primes as they are now. */
        int family;

        Couple(Big number, int ofIndex, int[] inLow, int[] inHigh) {
            low = new Big(number.limbCount());
            low.copy(number);
            index = ofIndex;
            int set = 0;
            for (int place = 0; place < Primes.SEVEN && place < inLow.length && place < inHigh.length; place++) {
                lowPowers[place] = inLow[place];
                highPowers[place] = inHigh[place];
                set |= inLow[place] + inHigh[place] > 0 ? 1 << place : 0;
            }
            made = set;
        }

        int lowPower(int place) {
            return place >= 0 && place < lowPowers.length ? lowPowers[place] : 0;
        }

        int highPower(int place) {
            return place >= 0 && place < highPowers.length ? highPowers[place] : 0;
        }

        int weight() {
            int all = 0;
            for (int place = 0; place < Primes.SEVEN; place++) {
                all += lowPower(place) + highPower(place);
            }
            return all;
        }

        int primesMoreInLow() {
            int more = 0;
            for (int place = 0; place < Primes.SEVEN; place++) {
                more += (lowPower(place) > 0 ? 1 : 0) - (highPower(place) > 0 ? 1 : 0);
            }
            return more;
        }
    }

    /** The powers of a unit, one behind the other, and the couples that come of them. */
    private static final class Powers {
        private static final int LIMBS = 32;

        private final Big before = new Big(LIMBS);
        private final Big now = new Big(LIMBS);
        private final Big after = new Big(LIMBS);
        private final Big low = new Big(LIMBS);
        private final Big rest = new Big(LIMBS);
        private final int[] lowPowers = new int[Primes.SEVEN];
        private final int[] highPowers = new int[Primes.SEVEN];
        private final int apart;

        Powers(int apartBy) {
            apart = apartBy;
        }

        void begin(Unit unit) {
            before.setTo(1);
            now.copy(unit.x);
        }

        void advance(Unit unit) {
            after.setProduct(unit.x, now);
            after.multiply(2);
            after.minus(before);
            before.copy(now);
            now.copy(after);
        }

        /** For neighbours the square is even, so the power is odd and its half comes out whole. */
        void tell(Unit unit, int i) {
            low.copy(now);
            low.decrease();
            if (apart == 1) {
                low.divide(2);
            }
            rest.copy(low);
            int dividing = factor(lowPowers);
            boolean areSmooth = rest.asInt() == 1;
            rest.copy(low);
            rest.increase(apart);
            dividing |= factor(highPowers);
            areSmooth = areSmooth && rest.asInt() == 1;
            unit.note(i, now.digits(), dividing, areSmooth ? new Couple(low, i, lowPowers, highPowers) : null);
        }

        private int factor(int[] powers) {
            int dividing = 0;
            for (int place = 0; place < Primes.SEVEN && place < powers.length; place++) {
                powers[place] = rest.strip(Primes.at(place));
                dividing |= powers[place] > 0 ? 1 << place : 0;
            }
            return dividing;
        }
    }

    /** All couples of smooth numbers so and so far apart, by the units of all classes of a set of primes. */
    private static final class Search {
        private static final int MOST_CLASSES = 32;
        private static final int MOST_COUPLES = 64;
        private static final int LIMBS = 32;

        private final Fraction fraction = new Fraction();
        private final Unit noUnit = new Unit(1, 2, fraction);
        private final Couple noCouple = new Couple(new Big(1), 0, new int[0], new int[0]);
        /** By the set of a class: a class is learnt once, when some primes have it first. */
        private final Unit[] known = new Unit[SETS];
        private final Unit[] units = new Unit[MOST_CLASSES];
        private final Couple[] couples = new Couple[MOST_COUPLES];
        private final Big spare = new Big(LIMBS);
        private final Powers powers;
        /** 1 for neighbours, 2 for numbers that are two apart. */
        final int apart;
        int bits = NONE;
        int bound;
        int classes;
        int found;

        Search(int apartBy) {
            apart = apartBy;
            powers = new Powers(apartBy);
        }

        Search fill(int primes) {
            if (bits == primes) {
                return this;
            }
            bits = primes;
            bound = Primes.boundOf(primes);
            classes = 0;
            found = 0;
            for (int set = 0; set < SETS; set++) {
                if (isClassOf(set, primes)) {
                    enterUnit(unitOf(set));
                }
            }
            for (int k = 0; k < classes; k++) {
                for (int i = 1; i <= bound; i++) {
                    enterCouple(unitAt(k).coupleFor(i, primes), k);
                }
            }
            return this;
        }

        int couplesFor(int primes) {
            int many = 0;
            for (int set = 0; set < SETS; set++) {
                if (isClassOf(set, primes)) {
                    many += Integer.bitCount(unitOf(set).indexesFor(primes));
                }
            }
            return many;
        }

        /** A class whose D were a square has no unit: among neighbours 2, among those two apart 1. */
        private boolean isClassOf(int set, int primes) {
            return (set & ~primes) == 0 && set != (apart == 1 ? 1 : 0);
        }

        private Unit unitOf(int set) {
            if (set < 0 || set >= known.length) {
                return noUnit;
            }
            Unit unit = known[set];
            if (unit == null) {
                int q = Primes.product(set);
                unit = new Unit(q, apart == 1 ? 2 * q : q, fraction);
                powers.begin(unit);
                for (int i = 1; i <= LAST_INDEX; i++) {
                    powers.tell(unit, i);
                    powers.advance(unit);
                }
                known[set] = unit;
            }
            return unit;
        }

        private void enterUnit(Unit unit) {
            int place = classes;
            if (place < 0 || place >= units.length) {
                return;
            }
            while (place > 0 && unitAt(place - 1).q > unit.q) {
                units[place] = unitAt(place - 1);
                place--;
            }
            units[place] = unit;
            classes++;
        }

        private void enterCouple(Couple couple, int family) {
            int place = found;
            if (couple == null || place < 0 || place >= couples.length) {
                return;
            }
            couple.family = family;
            found++;
            while (place > 0 && coupleAt(place - 1).low.compareWith(couple.low) > 0) {
                couples[place] = coupleAt(place - 1);
                place--;
            }
            couples[place] = couple;
        }

        boolean isClass(int k) {
            return k >= 0 && k < classes;
        }

        boolean isCouple(int i) {
            return i >= 0 && i < found;
        }

        Unit unitAt(int k) {
            Unit unit = k >= 0 && k < classes && k < units.length ? units[k] : null;
            return unit == null ? noUnit : unit;
        }

        Couple coupleAt(int i) {
            Couple couple = i >= 0 && i < found && i < couples.length ? couples[i] : null;
            return couple == null ? noCouple : couple;
        }

        /** The lesser number of a couple, if there is the couple and the number is below 10 to the 9; else NONE. */
        int smallAt(int i) {
            return isCouple(i) ? coupleAt(i).low.asInt() : NONE;
        }

        int indexesOf(int k) {
            return unitAt(k).indexesFor(bits);
        }

        int negatives() {
            int many = 0;
            for (int k = 0; k < classes; k++) {
                many += unitAt(k).isNegative() ? 1 : 0;
            }
            return many;
        }

        int classesWithCouples() {
            int many = 0;
            for (int k = 0; k < classes; k++) {
                many += indexesOf(k) != 0 ? 1 : 0;
            }
            return many;
        }

        int allRounds() {
            int all = 0;
            for (int k = 0; k < classes; k++) {
                all += unitAt(k).round;
            }
            return all;
        }

        int placeOf(Big number) {
            for (int i = 0; i < found; i++) {
                if (coupleAt(i).low.compareWith(number) == 0) {
                    return i;
                }
            }
            return NONE;
        }

        int lessThan(Big number) {
            int many = 0;
            for (int i = 0; i < found; i++) {
                many += coupleAt(i).low.compareWith(number) < 0 ? 1 : 0;
            }
            return many;
        }

        /** Whether a couple shares its lesser number with the couple ahead of it. */
        boolean goesOn(int i) {
            if (i < 1 || !isCouple(i)) {
                return false;
            }
            spare.copy(coupleAt(i - 1).low);
            spare.increase(1);
            return spare.compareWith(coupleAt(i).low) == 0;
        }

        private boolean startsRun(int i) {
            return goesOn(i + 1) && !goesOn(i);
        }

        int runsOfThree() {
            int many = 0;
            for (int i = 0; i < found; i++) {
                many += startsRun(i) ? 1 : 0;
            }
            return many;
        }

        int startOfRun(int which) {
            int ahead = 0;
            for (int i = 0; i < found; i++) {
                if (startsRun(i)) {
                    if (ahead == which) {
                        return i;
                    }
                    ahead++;
                }
            }
            return NONE;
        }

        int numbersInRun(int first) {
            int numbers = 2;
            for (int i = first + 1; i < found && goesOn(i); i++) {
                numbers++;
            }
            return numbers;
        }

        int measureOf(int i, int measure) {
            Couple couple = coupleAt(i);
            switch (measure) {
                case 0:
                    return i;
                case 1:
                    return couple.low.digits();
                case 2:
                    return couple.family;
                case 3:
                    return couple.index;
                case 4:
                    return couple.weight();
                case 5:
                    return Primes.greatest(couple.made);
                case 6:
                    return Primes.product(couple.made);
                case 7:
                    return couple.low.remainder(10000);
                case 8:
                    return couple.primesMoreInLow();
                default:
                    return NO_MEASURE;
            }
        }
    }

    /** Pairs by their measures, and how many of their relations are free of one another. */
    private static final class Ranking {
        private static final int MOST_PLACES = 64;
        private static final int FIELD = 10007;

        private final int[] places = new int[MOST_PLACES];
        private final int[] measures = new int[MOST_PLACES];
        private final int[] others = new int[MOST_PLACES];
        private final int[] basis = new int[Primes.SEVEN * Primes.SEVEN];
        private final int[] row = new int[Primes.SEVEN];

        int placed(Search pairs, int measure, int other, int place) {
            for (int i = 0; i < pairs.found && i < MOST_PLACES; i++) {
                measures[i] = pairs.measureOf(i, measure);
                others[i] = pairs.measureOf(i, other);
                int hole = i;
                while (hole > 0 && isAhead(i, places[hole - 1])) {
                    places[hole] = places[hole - 1];
                    hole--;
                }
                places[hole] = i;
            }
            return place >= 0 && place < places.length ? places[place] : NONE;
        }

        /** Pairs come in by size: of those that are like in both measures the earlier one stays ahead. */
        private boolean isAhead(int one, int two) {
            if (one < 0 || one >= MOST_PLACES || two < 0 || two >= MOST_PLACES) {
                return false;
            }
            return measures[one] < measures[two] || measures[one] == measures[two] && others[one] < others[two];
        }

        int rankOf(Search pairs, int many) {
            Arrays.fill(basis, 0);
            int rank = 0;
            for (int i = 0; i < many && i < pairs.found; i++) {
                Couple couple = pairs.coupleAt(i);
                for (int place = 0; place < row.length; place++) {
                    row[place] = Math.floorMod(couple.highPower(place) - couple.lowPower(place), FIELD);
                }
                rank += entersBasis() ? 1 : 0;
            }
            return rank;
        }

        /** Row k of the basis is empty or has its first entry that is not 0 at k. */
        private boolean entersBasis() {
            for (int k = 0; k < row.length; k++) {
                int mine = row[k];
                long its = basisAt(k, k);
                if (mine != 0 && its == 0) {
                    for (int j = 0; j < row.length && k * Primes.SEVEN + j < basis.length; j++) {
                        basis[k * Primes.SEVEN + j] = row[j];
                    }
                    return true;
                }
                for (int j = 0; j < row.length && mine != 0; j++) {
                    row[j] = (int) Math.floorMod(row[j] * its - (long) basisAt(k, j) * mine, (long) FIELD);
                }
            }
            return false;
        }

        private int basisAt(int k, int j) {
            int place = k * Primes.SEVEN + j;
            return place >= 0 && place < basis.length ? basis[place] : 0;
        }
    }

    /** The smooth numbers up to the sieve's end, one by one, each with the primes that it is made of. */
    private static final class Smooths {
        private static final int MOST = 1600;

        private final int[] values = new int[MOST];
        private final int[] sets = new int[MOST];
        /** For each prime the place of the number that it multiplies next. */
        private final int[] turns = new int[Primes.SEVEN];
        /** How many sums there are up to a number, and how many of these lie above their radical. */
        private final int[] sums = new int[SUMS_END + 1];
        private final int[] rareSums = new int[SUMS_END + 1];
        private boolean sumsAreKnown;
        private int bits = NONE;
        private int many;

        Smooths fill(int primes) {
            if (bits == primes) {
                return this;
            }
            bits = primes;
            sumsAreKnown = false;
            Arrays.fill(turns, 0);
            many = 0;
            int value = 1;
            int set = 0;
            for (int k = 0; k < MOST && value <= SIEVE_END; k++) {
                values[k] = value;
                sets[k] = set;
                many = k + 1;
                value = leastProduct();
                set = takeTurns(value);
            }
            return this;
        }

        private int leastProduct() {
            int least = SIEVE_END + 1;
            for (int place = 0; place < Primes.SEVEN; place++) {
                least = Math.min(least, productOf(place));
            }
            return least;
        }

        private int productOf(int place) {
            boolean counts = place >= 0 && place < turns.length && (bits >> place & 1) == 1;
            return counts ? valueAt(turns[place]) * Primes.at(place) : SIEVE_END + 1;
        }

        private int takeTurns(int product) {
            int set = 0;
            for (int place = 0; place < turns.length; place++) {
                if (productOf(place) == product) {
                    set |= setAt(turns[place]) | 1 << place;
                    turns[place]++;
                }
            }
            return set;
        }

        int valueAt(int k) {
            return k >= 0 && k < many && k < values.length ? values[k] : NONE;
        }

        private int setAt(int k) {
            return k >= 0 && k < many && k < sets.length ? sets[k] : 0;
        }

        /** The place of the first number above n, which is also how many there are up to n. */
        int placeAbove(int n) {
            int from = 0;
            int to = many;
            for (int guard = 0; guard < 32 && from < to; guard++) {
                int between = (from + to) / 2;
                if (valueAt(between) <= n) {
                    from = between + 1;
                } else {
                    to = between;
                }
            }
            return from;
        }

        int valueAbove(int n) {
            return valueAt(placeAbove(n));
        }

        int couplesUpTo(int d, int upTo) {
            int all = 0;
            int at = 0;
            for (int k = 0; k < many && valueAt(k) + d <= upTo; k++) {
                int other = valueAt(k) + d;
                while (at < many && valueAt(at) < other) {
                    at++;
                }
                all += valueAt(at) == other ? 1 : 0;
            }
            return all;
        }

        boolean saysTheSame(Search search, int upTo) {
            int like = 0;
            int at = 0;
            for (int k = 0; k < many && valueAt(k) + search.apart <= upTo; k++) {
                int other = valueAt(k) + search.apart;
                while (at < many && valueAt(at) < other) {
                    at++;
                }
                if (valueAt(at) == other) {
                    if (search.smallAt(like) != valueAt(k)) {
                        return false;
                    }
                    like++;
                }
            }
            int further = search.smallAt(like);
            return further == NONE || further + search.apart > upTo;
        }

        int widest(int upTo, boolean asksWidth) {
            int width = NONE;
            int lesser = NONE;
            for (int k = 1; k < many && valueAt(k) <= upTo; k++) {
                int d = valueAt(k) - valueAt(k - 1);
                if (d > width) {
                    width = d;
                    lesser = valueAt(k - 1);
                }
            }
            return asksWidth ? width : lesser;
        }

        int sumsUpTo(int upTo, boolean aboveRadical) {
            if (!sumsAreKnown) {
                learnSums();
            }
            if (upTo < 0 || upTo > SUMS_END) {
                return NONE;
            }
            return aboveRadical ? rareSums[upTo] : sums[upTo];
        }

        private void learnSums() {
            Arrays.fill(sums, 0);
            Arrays.fill(rareSums, 0);
            for (int i = 0; i < many && 2 * valueAt(i) <= SUMS_END; i++) {
                int at = i;
                for (int j = i; j < many && valueAt(i) + valueAt(j) <= SUMS_END; j++) {
                    int sum = valueAt(i) + valueAt(j);
                    while (at < many && valueAt(at) < sum) {
                        at++;
                    }
                    if (valueAt(at) == sum) {
                        learnSum(sum, setAt(i), setAt(j), setAt(at));
                    }
                }
            }
            for (int c = 1; c <= SUMS_END; c++) {
                sums[c] += sums[c - 1];
                rareSums[c] += rareSums[c - 1];
            }
            sumsAreKnown = true;
        }

        /** A prime that divides two of the three divides all. */
        private void learnSum(int sum, int setA, int setB, int setC) {
            if (sum < 0 || sum > SUMS_END || (setA & setB) != 0) {
                return;
            }
            sums[sum]++;
            rareSums[sum] += sum > Primes.product(setA | setB | setC) ? 1 : 0;
        }
    }

    /** The first smooth numbers of all, as long as they are, each a row of limbs in one long row. */
    private static final class Greats {
        private static final int LIMBS = 58;

        private final int[] rows = new int[(LAST_GREAT + 1) * LIMBS];
        private final int[] sizes = new int[LAST_GREAT + 1];
        /** For each prime the place of the number that it multiplies next, and the product. */
        private final int[] turns = new int[Primes.SEVEN];
        private final Big[] products = new Big[Primes.SEVEN];
        private final Big shown = new Big(LIMBS);
        private int bits = NONE;
        private int many;

        Greats() {
            for (int place = 0; place < products.length; place++) {
                products[place] = new Big(LIMBS);
            }
        }

        /** Goes on as far as number k, if there is one: without primes 1 is the only one. */
        boolean reaches(int k, int primes) {
            if (k < 0 || k > LAST_GREAT) {
                return false;
            }
            if (bits != primes) {
                begin(primes);
            }
            for (int i = many; i <= k && bits != 0; i++) {
                goOn();
            }
            return k < many;
        }

        Big shown(int k) {
            shown.load(rows, k * LIMBS, k >= 0 && k < sizes.length ? sizes[k] : 0);
            return shown;
        }

        private void begin(int primes) {
            bits = primes;
            many = 0;
            shown.setTo(1);
            keepShown();
            for (int place = 0; place < turns.length; place++) {
                turns[place] = 0;
                multiplyTurn(place);
            }
        }

        private void goOn() {
            int least = NONE;
            for (int place = 0; place < Primes.SEVEN; place++) {
                if (isIn(place) && (least == NONE || productAt(place).compareWith(productAt(least)) < 0)) {
                    least = place;
                }
            }
            shown.copy(productAt(least));
            keepShown();
            for (int place = 0; place < turns.length; place++) {
                if (isIn(place) && productAt(place).compareWith(shown) == 0) {
                    turns[place]++;
                    multiplyTurn(place);
                }
            }
        }

        private boolean isIn(int place) {
            return (bits >> place & 1) == 1;
        }

        private Big productAt(int place) {
            Big product = place >= 0 && place < products.length ? products[place] : null;
            return product == null ? shown : product;
        }

        private void multiplyTurn(int place) {
            int turn = place >= 0 && place < turns.length ? turns[place] : NONE;
            if (turn >= 0 && turn < sizes.length) {
                Big product = productAt(place);
                product.load(rows, turn * LIMBS, sizes[turn]);
                product.multiply(Primes.at(place));
            }
        }

        private void keepShown() {
            if (many >= 0 && many < sizes.length) {
                sizes[many] = shown.store(rows, many * LIMBS);
                many++;
            }
        }
    }

    /** A row of bytes that grows behind and can be cut. */
    private static final class Text {
        private final byte[] bytes;
        int length;

        Text(int capacity) {
            bytes = new byte[capacity > 0 ? capacity : 1];
        }

        boolean hasRoomFor(int more) {
            return length <= bytes.length - more;
        }

        void append(int sign) {
            if (length >= 0 && length < bytes.length) {
                bytes[length] = (byte) sign;
                length++;
            }
        }

        /** The highest byte first. */
        void appendFour(int word) {
            for (int shift = 24; shift >= 0; shift -= 8) {
                append(word >> shift);
            }
        }

        /** Takes a value from 0 on. */
        void appendInt(int value) {
            int digits = 1;
            for (int rest = value; rest >= 10; rest /= 10) {
                digits++;
            }
            for (int k = digits - 1; k >= 0; k--) {
                int rest = value;
                for (int i = 0; i < k; i++) {
                    rest /= 10;
                }
                append('0' + rest % 10);
            }
        }

        void appendBig(Big number) {
            for (int k = number.digits() - 1; k >= 0; k--) {
                append('0' + number.digitAt(k));
            }
        }

        boolean cutTo(int n) {
            if (n < 0 || n > length) {
                return false;
            }
            length = n;
            return true;
        }

        int byteAt(int k) {
            return k >= 0 && k < length && k < bytes.length ? bytes[k] & 255 : NONE;
        }

        /** Whether these are digits, at most so many, the first not 0. */
        boolean isNumber(int most) {
            if (length < 1 || length > most || byteAt(0) == '0') {
                return false;
            }
            for (int k = 0; k < length; k++) {
                if (byteAt(k) < '0' || byteAt(k) > '9') {
                    return false;
                }
            }
            return true;
        }

        /** The first place at which the other one is not the same, its end too; NONE, if they are the same. */
        int firstUnlike(Text other) {
            for (int k = 0; k < length; k++) {
                if (other.byteAt(k) != byteAt(k)) {
                    return k;
                }
            }
            return other.length > length ? length : NONE;
        }
    }
}
