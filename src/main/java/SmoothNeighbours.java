import java.util.Arrays;

/** Neighbouring numbers that are made of told small primes alone, and how it is shown that these are all. */
public final class SmoothNeighbours {
    public static final int NONE = -1;

    private static final int NO_MEASURE = -100;
    private static final int NO_LEAVES = -1000000;
    private static final int NO_WITNESS = -2;
    private static final int MOST_PRIMES = 5;
    private static final int SETS = 128;
    private static final int MEASURES = 9;
    private static final int SIEVE_END = 200000;
    private static final int SUMS_END = 3000;
    private static final int LAST_MODULUS = 10000;
    private static final int LAST_POWER = 60;
    private static final int LAST_ENTRY = 200;
    private static final int LAST_GREAT = 400;
    private static final int NUMBER_DIGITS = 300;
    private static final int NUMBER_LIMBS = 36;

    private final Search here = new Search(1);
    private final Search elsewhere = new Search(1);
    private final Search twoApart = new Search(2);
    private final Smooths sieve = new Smooths();
    private final Greats greats = new Greats();
    private final Tape tape = new Tape();
    private final Proof written = new Proof();
    private final Proof due = new Proof();
    private final Fraction fraction = new Fraction();
    private final Ranking ranking = new Ranking();
    private final Big told = new Big(NUMBER_LIMBS);
    private final Big spare = new Big(NUMBER_LIMBS);
    /** One more than how many PAIRS a set has; 0 where that is not known yet. */
    private final int[] knownPairs = new int[SETS];
    private int bits;

    public SmoothNeighbours() {
        told.setTo(1);
        renew(3);
    }

    // ---------------------------------------------------------------- the primes

    public int add(int prime) {
        return canCome(prime) ? renew(bits | Primes.bitOf(prime)) : NONE;
    }

    public int drop(int prime) {
        return Primes.has(bits, prime) ? renew(bits & ~Primes.bitOf(prime)) : NONE;
    }

    public int choose(int bits) {
        if (bits < 0 || bits >= SETS || Integer.bitCount(bits) > MOST_PRIMES) {
            return NONE;
        }
        return renew(bits);
    }

    public int is(int what) {
        switch (what) {
            case 0:
                return bits;
            case 1:
                return Integer.bitCount(bits);
            case 2:
                return here.classes;
            case 3:
                return here.bound;
            case 4:
                return here.found;
            case 5:
                return here.runsOfThree();
            case 6:
                return Primes.greatest(bits);
            case 7:
                return here.found == 0 ? 0 : here.coupleAt(here.found - 1).low.digits();
            case 8:
                return here.negatives();
            case 9:
                return here.classesWithCouples();
            case 10:
                return here.allRounds();
            default:
                return NONE;
        }
    }

    // ---------------------------------------------------------------- the classes

    public int of(int theClass, int what) {
        if (!here.isClass(theClass)) {
            return NONE;
        }
        Unit unit = here.unitAt(theClass);
        switch (what) {
            case 0:
                return unit.q;
            case 1:
                return unit.square;
            case 2:
                return unit.root;
            case 3:
                return unit.round;
            case 4:
                return unit.isNegative() ? 1 : 0;
            case 5:
                return Integer.bitCount(unit.indexes);
            case 6:
                return unit.x.digits();
            case 7:
                return unit.y.digits();
            case 8:
                return unit.indexes;
            default:
                return NONE;
        }
    }

    public int step(int theClass, int k) {
        return isStep(theClass, k) ? fraction.wholeBehind(here.unitAt(theClass).square, k) : NONE;
    }

    public int unit(int theClass, int what, int k) {
        if (!here.isClass(theClass) || what < 0 || what > 1) {
            return NONE;
        }
        Unit unit = here.unitAt(theClass);
        return (what == 0 ? unit.x : unit.y).digitAt(k);
    }

    public int power(int theClass, int i, int m) {
        if (!here.isClass(theClass) || i < 0 || i > LAST_POWER || !isModulus(m)) {
            return NONE;
        }
        return here.unitAt(theClass).powerLeft(i, m);
    }

    public int powerLong(int theClass, int i) {
        if (!here.isClass(theClass) || i < 0 || i > here.bound) {
            return NONE;
        }
        return here.unitAt(theClass).powerDigits(i);
    }

    public int half(int theClass, int what, int k) {
        if (!here.isClass(theClass) || !here.unitAt(theClass).isNegative() || what < 0 || what > 1) {
            return NONE;
        }
        fraction.walkRound(here.unitAt(theClass).square);
        return (what == 0 ? fraction.p : fraction.r).digitAt(k);
    }

    public int leaves(int theClass, int k) {
        return isStep(theClass, k) ? fraction.leavesBehind(here.unitAt(theClass).square, k) : NO_LEAVES;
    }

    public int nearing(int theClass, int k, int what, int m) {
        if (!isStep(theClass, k) || what < 0 || what > 1 || !isModulus(m)) {
            return NONE;
        }
        return fraction.nearingLeft(here.unitAt(theClass).square, k, what, m);
    }

    public int middle(int theClass) {
        if (!here.isClass(theClass) || here.unitAt(theClass).isNegative()) {
            return NONE;
        }
        Unit unit = here.unitAt(theClass);
        return fraction.divisorBehind(unit.square, unit.round / 2);
    }

    public int least(int theClass, int n) {
        if (!here.isClass(theClass) || n < -1000 || n > 1000) {
            return NONE;
        }
        long square = here.unitAt(theClass).square;
        for (int y = 1; y <= 3000; y++) {
            if (Primes.isSquare(square * y * y + n)) {
                return y;
            }
        }
        return NONE;
    }

    public int witness(int theClass, int i) {
        return here.isClass(theClass) && i >= 1 && i <= here.bound ? here.witnessOf(theClass, i) : NONE;
    }

    public int entry(int theClass, int prime) {
        if (!here.isClass(theClass) || prime < 2 || prime > 97 || !Primes.isPrime(prime)) {
            return NONE;
        }
        return here.unitAt(theClass).firstEntry(prime);
    }

    // ---------------------------------------------------------------- the pairs

    public int digit(int pair, int k) {
        return here.isCouple(pair) ? here.coupleAt(pair).low.digitAt(k) : NONE;
    }

    public int left(int pair, int m) {
        return here.isCouple(pair) && isModulus(m) ? here.coupleAt(pair).low.remainder(m) : NONE;
    }

    public int small(int pair) {
        return here.isCouple(pair) ? here.coupleAt(pair).low.asInt() : NONE;
    }

    public int measure(int pair, int measure) {
        return here.isCouple(pair) && isMeasure(measure) ? here.measureOf(pair, measure) : NO_MEASURE;
    }

    public int inPair(int pair, int prime, int what) {
        if (!here.isCouple(pair) || !Primes.has(bits, prime) || what < 0 || what > 1) {
            return NONE;
        }
        Couple couple = here.coupleAt(pair);
        int place = Primes.placeOf(prime);
        return what == 0 ? couple.lowPower(place) : couple.highPower(place);
    }

    public int order(int measure, int other, int place) {
        if (!isMeasure(measure) || !isMeasure(other) || !here.isCouple(place)) {
            return NONE;
        }
        return ranking.placed(here, measure, other, place);
    }

    public int count(int measure, int low, int high) {
        if (!isMeasure(measure)) {
            return NONE;
        }
        int many = 0;
        for (int pair = 0; pair < here.found; pair++) {
            int value = here.measureOf(pair, measure);
            many += value >= low && value <= high ? 1 : 0;
        }
        return many;
    }

    public int top(int measure) {
        if (!isMeasure(measure) || here.found == 0) {
            return NONE;
        }
        int best = 0;
        for (int pair = 1; pair < here.found; pair++) {
            if (here.measureOf(pair, measure) > here.measureOf(best, measure)) {
                best = pair;
            }
        }
        return best;
    }

    public int below(int e) {
        if (e < 0 || e > 400) {
            return NONE;
        }
        int many = 0;
        for (int pair = 0; pair < here.found; pair++) {
            many += here.coupleAt(pair).low.digits() <= e ? 1 : 0;
        }
        return many;
    }

    public int run(int i, int what) {
        int first = here.startOfRun(i);
        if (first < 0 || what < 0 || what > 1) {
            return NONE;
        }
        return what == 0 ? first : here.pairsInRun(first) + 1;
    }

    public int rank(int many) {
        return many >= 0 && many <= here.found ? ranking.rankOf(here, many) : NONE;
    }

    public int madeOf(int pair) {
        return here.isCouple(pair) ? here.coupleAt(pair).madeOfBits() : NONE;
    }

    public int madeBy(int set) {
        int many = 0;
        for (int pair = 0; pair < here.found; pair++) {
            many += here.coupleAt(pair).madeOfBits() == set ? 1 : 0;
        }
        return many;
    }

    public int share(int prime) {
        if (!Primes.has(bits, prime)) {
            return NONE;
        }
        int many = 0;
        for (int pair = 0; pair < here.found; pair++) {
            many += Primes.has(here.coupleAt(pair).madeOfBits(), prime) ? 1 : 0;
        }
        return many;
    }

    public int threes() {
        int many = 0;
        for (int pair = 1; pair < here.found; pair++) {
            many += here.goesOn(pair) ? 1 : 0;
        }
        return many;
    }

    public int meanLength() {
        if (here.found == 0) {
            return 0;
        }
        int all = 0;
        for (int pair = 0; pair < here.found; pair++) {
            all += here.coupleAt(pair).low.digits();
        }
        return floatBits((float) all / (float) here.found);
    }

    // ---------------------------------------------------------------- other sets of primes

    public int would(int prime) {
        return canCome(prime) ? pairsOf(bits | Primes.bitOf(prime)) : NONE;
    }

    public int without(int prime) {
        return Primes.has(bits, prime) ? pairsOf(bits & ~Primes.bitOf(prime)) : NONE;
    }

    public int bestPrime() {
        int best = NONE;
        int most = NONE;
        for (int place = 0; place < Primes.MANY; place++) {
            int prime = Primes.at(place);
            int many = canCome(prime) ? pairsOf(bits | Primes.bitOf(prime)) : NONE;
            if (many > most) {
                most = many;
                best = prime;
            }
        }
        return best;
    }

    public int growth(int k) {
        return k >= 0 && k <= Integer.bitCount(bits) ? pairsOf(Primes.lowest(bits, k)) : NONE;
    }

    // ---------------------------------------------------------------- smooth numbers one by one

    public boolean smooth(int n) {
        if (n < 1) {
            return false;
        }
        int rest = n;
        for (int place = 0; place < Primes.MANY; place++) {
            int prime = Primes.at(place);
            for (int times = 0; times < 31 && Primes.has(bits, prime) && rest % prime == 0; times++) {
                rest /= prime;
            }
        }
        return rest == 1;
    }

    public int smoothUpTo(int n) {
        return isBelowSieveEnd(n) ? readySieve().placeAbove(n) : NONE;
    }

    public int smoothAt(int k) {
        return readySieve().valueAt(k);
    }

    public int next(int n) {
        return n >= 0 ? readySieve().valueAt(readySieve().placeAbove(n)) : NONE;
    }

    public int sieved(int upTo) {
        return isBelowSieveEnd(upTo) ? readySieve().couplesUpTo(1, upTo) : NONE;
    }

    public boolean agrees(int upTo) {
        return isBelowSieveEnd(upTo) && readySieve().saysTheSame(here, upTo);
    }

    public int gap(int upTo, int what) {
        if (!isBelowSieveEnd(upTo) || what < 0 || what > 1) {
            return NONE;
        }
        return readySieve().widest(upTo, what);
    }

    public int apart(int d, int upTo) {
        return d >= 1 && d <= 1000 && isBelowSieveEnd(upTo) ? readySieve().couplesUpTo(d, upTo) : NONE;
    }

    public int sums(int upTo, int what) {
        if (upTo < 0 || upTo > SUMS_END || what < 0 || what > 1) {
            return NONE;
        }
        return readySieve().sumsUpTo(upTo, what == 1);
    }

    public long thick(int n) {
        if (n < 1 || n > SIEVE_END) {
            return 0;
        }
        return doubleBits((double) readySieve().placeAbove(n) / (double) n);
    }

    public int greatLong(int k) {
        return k >= 0 && k <= LAST_GREAT && readyGreats().reaches(k) ? greats.shown(k).digits() : NONE;
    }

    public int greatDigit(int k, int d) {
        return k >= 0 && k <= LAST_GREAT && readyGreats().reaches(k) ? greats.shown(k).digitAt(d) : NONE;
    }

    // ---------------------------------------------------------------- numbers that are two apart

    public int twos() {
        return readyTwos().found;
    }

    public int twoClasses() {
        return readyTwos().classes;
    }

    public int twoClass(int theClass, int what) {
        if (!readyTwos().isClass(theClass)) {
            return NONE;
        }
        Unit unit = twoApart.unitAt(theClass);
        switch (what) {
            case 0:
                return unit.q;
            case 1:
                return unit.root;
            case 2:
                return unit.round;
            case 3:
                return unit.x.digits();
            case 4:
                return unit.y.digits();
            case 5:
                return Integer.bitCount(unit.indexes);
            default:
                return NONE;
        }
    }

    public int two(int i, int what) {
        if (!readyTwos().isCouple(i)) {
            return NONE;
        }
        Couple couple = twoApart.coupleAt(i);
        switch (what) {
            case 0:
                return couple.low.digits();
            case 1:
                return couple.family;
            case 2:
                return couple.index;
            case 3:
                return couple.low.remainder(10000);
            case 4:
                return couple.low.asInt();
            default:
                return NONE;
        }
    }

    public int twoDigit(int i, int k) {
        return readyTwos().isCouple(i) ? twoApart.coupleAt(i).low.digitAt(k) : NONE;
    }

    public boolean twosAgree(int upTo) {
        return isBelowSieveEnd(upTo) && readySieve().saysTheSame(readyTwos(), upTo);
    }

    // ---------------------------------------------------------------- the tape, the number, the proof

    public int feed(int a, int b, int c, int d, int e) {
        if (!tape.hasRoomFor(20)) {
            return NONE;
        }
        tape.appendFour(a);
        tape.appendFour(b);
        tape.appendFour(c);
        tape.appendFour(d);
        tape.appendFour(e);
        return tape.length;
    }

    public int end(int n) {
        return tape.cutTo(n) ? n : NONE;
    }

    public int number() {
        int digits = tape.numberDigits(NUMBER_DIGITS);
        if (digits > 0) {
            told.setTo(0);
            for (int i = 0; i < digits; i++) {
                told.multiply(10);
                told.increase(tape.byteAt(i) - '0');
            }
        }
        tape.cutTo(0);
        return digits > 0 ? digits : NONE;
    }

    public int inNumber(int prime, int what) {
        if (Primes.placeOf(prime) < 0 || what < 0 || what > 1) {
            return NONE;
        }
        spare.copy(told);
        spare.increase(what);
        return spare.strip(prime);
    }

    public int ofNumber(int what) {
        switch (what) {
            case 0:
                return told.isSmooth(bits, spare) ? 1 : 0;
            case 1:
                return here.placeOf(told);
            case 2:
                return readyTwos().placeOf(told);
            case 3:
                spare.copy(told);
                spare.stripAll(bits);
                return spare.digits();
            case 4:
                return here.lessThan(told);
            case 5:
                return told.remainder(9973);
            default:
                return NONE;
        }
    }

    public int proof() {
        written.write(here);
        return written.length;
    }

    public int octet(int k) {
        return k >= 0 && k < written.length ? written.byteAt(k) : NONE;
    }

    public int proves() {
        due.write(here);
        int wrong = NONE;
        for (int k = 0; k < due.length && wrong == NONE; k++) {
            if (k >= tape.length || tape.byteAt(k) != due.byteAt(k)) {
                wrong = k;
            }
        }
        if (wrong == NONE && tape.length > due.length) {
            wrong = due.length;
        }
        tape.cutTo(0);
        return wrong;
    }

    // ---------------------------------------------------------------- what the calls share

    private int renew(int newBits) {
        bits = newBits;
        if (here.bits != newBits) {
            here.fill(newBits);
        }
        return here.found;
    }

    private int pairsOf(int set) {
        if (set < 0 || set >= knownPairs.length) {
            return NONE;
        }
        if (knownPairs[set] == 0) {
            elsewhere.fill(set);
            knownPairs[set] = elsewhere.found + 1;
        }
        return knownPairs[set] - 1;
    }

    private boolean canCome(int prime) {
        return Primes.placeOf(prime) >= 0 && !Primes.has(bits, prime) && Integer.bitCount(bits) < MOST_PRIMES;
    }

    private boolean isStep(int theClass, int k) {
        return here.isClass(theClass) && k >= 0 && k <= 2 * here.unitAt(theClass).round;
    }

    private static boolean isModulus(int m) {
        return m >= 2 && m <= LAST_MODULUS;
    }

    private static boolean isMeasure(int measure) {
        return measure >= 0 && measure < MEASURES;
    }

    private static boolean isBelowSieveEnd(int n) {
        return n >= 0 && n <= SIEVE_END;
    }

    private Smooths readySieve() {
        sieve.fill(bits);
        return sieve;
    }

    private Greats readyGreats() {
        greats.begin(bits);
        return greats;
    }

    private Search readyTwos() {
        if (twoApart.bits != bits) {
            twoApart.fill(bits);
        }
        return twoApart;
    }

    /** The bits of a float from 1 on, found by halving alone, which loses nothing. */
    private static int floatBits(float value) {
        float rest = value;
        int exponent = 127;
        for (int times = 0; times < 127 && rest >= 2; times++) {
            rest /= 2;
            exponent++;
        }
        return (exponent << 23) | (int) ((rest - 1) * (1 << 23));
    }

    /** The bits of a double above 0 and up to 1, found by doubling alone, which loses nothing. */
    private static long doubleBits(double value) {
        double rest = value;
        long exponent = 1023;
        for (int times = 0; times < 1000 && rest < 1; times++) {
            rest *= 2;
            exponent--;
        }
        return (exponent << 52) | (long) ((rest - 1) * (1L << 52));
    }

    /** The seven primes, sets of them as bits, and what is asked of single numbers. */
    private static final class Primes {
        static final int MANY = 7;
        private static final int[] SEVEN = {2, 3, 5, 7, 11, 13, 17};

        /** A prime by its place; 1, which divides without harm, where there is none. */
        static int at(int place) {
            return place >= 0 && place < SEVEN.length ? SEVEN[place] : 1;
        }

        static int placeOf(int prime) {
            for (int place = 0; place < SEVEN.length; place++) {
                if (SEVEN[place] == prime) {
                    return place;
                }
            }
            return NONE;
        }

        static int bitOf(int prime) {
            int place = placeOf(prime);
            return place < 0 ? 0 : 1 << place;
        }

        static boolean has(int set, int prime) {
            return (set & bitOf(prime)) != 0;
        }

        static int greatest(int set) {
            int best = 0;
            for (int place = 0; place < SEVEN.length; place++) {
                best = (set >> place & 1) == 1 ? SEVEN[place] : best;
            }
            return best;
        }

        static int boundOf(int set) {
            return Math.max(3, (greatest(set) + 1) / 2);
        }

        static int product(int set) {
            int all = 1;
            for (int place = 0; place < SEVEN.length; place++) {
                all *= (set >> place & 1) == 1 ? SEVEN[place] : 1;
            }
            return all;
        }

        static int lowest(int set, int many) {
            int chosen = 0;
            for (int place = 0; place < SEVEN.length; place++) {
                if (Integer.bitCount(chosen) < many) {
                    chosen |= set & 1 << place;
                }
            }
            return chosen;
        }

        static boolean isPrime(int n) {
            for (int d = 2; d < 1000 && d * d <= n; d++) {
                if (n % d == 0) {
                    return false;
                }
            }
            return n >= 2;
        }

        static long rootOf(long n) {
            long root = 0;
            for (long bit = 1L << 30; bit > 0; bit >>= 1) {
                if ((root | bit) * (root | bit) <= n) {
                    root |= bit;
                }
            }
            return root;
        }

        static boolean isSquare(long n) {
            long root = rootOf(n);
            return root * root == n;
        }
    }

    /** A whole number from 0 on, as long as its row of limbs to the base 10 to the 9. */
    private static final class Big {
        private static final int BASE = 1000000000;
        private static final int LIMB_DIGITS = 9;

        private final int[] limbs;
        private int size;

        Big(int capacity) {
            limbs = new int[capacity > 0 ? capacity : 1];
        }

        void setTo(int value) {
            size = 0;
            int rest = value;
            for (int i = 0; i < limbs.length && rest > 0; i++) {
                limbs[i] = rest % BASE;
                rest /= BASE;
                size = i + 1;
            }
        }

        void copy(Big other) {
            int many = Math.min(other.size, limbs.length);
            for (int i = 0; i < many && i < limbs.length && i < other.limbs.length; i++) {
                limbs[i] = other.limbs[i];
            }
            size = many;
        }

        void load(int[] row, int from, int many) {
            size = 0;
            for (int i = 0; i < many && i < limbs.length && from >= 0 && from < row.length - i; i++) {
                limbs[i] = row[from + i];
                size = i + 1;
            }
        }

        int store(int[] row, int from) {
            for (int i = 0; i < size && i < limbs.length && from >= 0 && from < row.length - i; i++) {
                row[from + i] = limbs[i];
            }
            return size;
        }

        void multiply(int factor) {
            long carry = 0;
            for (int i = 0; i < limbs.length && (i < size || carry > 0); i++) {
                long sum = carry + (i < size ? (long) limbs[i] * factor : 0);
                limbs[i] = (int) (sum % BASE);
                carry = sum / BASE;
                size = Math.max(size, i + 1);
            }
            trim();
        }

        /** This is a times b; neither of them may be this. */
        void setProduct(Big a, Big b) {
            size = Math.min(a.size + b.size, limbs.length);
            Arrays.fill(limbs, 0);
            for (int i = 0; i < a.size && i < a.limbs.length; i++) {
                long carry = 0;
                for (int j = 0; i + j < size && i + j < limbs.length; j++) {
                    long product = j < b.size && j < b.limbs.length ? (long) a.limbs[i] * b.limbs[j] : 0;
                    long sum = product + limbs[i + j] + carry;
                    limbs[i + j] = (int) (sum % BASE);
                    carry = sum / BASE;
                }
            }
            trim();
        }

        void plus(Big other) {
            int carry = 0;
            for (int i = 0; i < limbs.length && (i < size || i < other.size || carry > 0); i++) {
                int sum = carry + limbAt(i) + other.limbAt(i);
                limbs[i] = sum % BASE;
                carry = sum / BASE;
                size = Math.max(size, i + 1);
            }
        }

        /** Takes off a number that is not greater than this. */
        void minus(Big other) {
            int borrow = 0;
            for (int i = 0; i < size && i < limbs.length; i++) {
                int difference = limbs[i] - other.limbAt(i) - borrow;
                borrow = difference < 0 ? 1 : 0;
                limbs[i] = difference + borrow * BASE;
            }
            trim();
        }

        void increase(int by) {
            int carry = by;
            for (int i = 0; i < limbs.length && carry > 0; i++) {
                int sum = limbAt(i) + carry;
                limbs[i] = sum % BASE;
                carry = sum / BASE;
                size = Math.max(size, i + 1);
            }
        }

        /** Takes 1 off, if there is any. */
        void decrease() {
            int borrow = 1;
            for (int i = 0; i < size && i < limbs.length && borrow > 0; i++) {
                borrow = limbs[i] == 0 ? 1 : 0;
                limbs[i] = borrow == 1 ? BASE - 1 : limbs[i] - 1;
            }
            trim();
        }

        void divide(int divisor) {
            long rest = 0;
            for (int i = Math.min(size, limbs.length) - 1; i >= 0 && divisor > 0; i--) {
                long part = rest * BASE + limbs[i];
                limbs[i] = (int) (part / divisor);
                rest = part % divisor;
            }
            trim();
        }

        int remainder(int divisor) {
            long rest = 0;
            for (int i = Math.min(size, limbs.length) - 1; i >= 0 && divisor > 0; i--) {
                rest = (rest * BASE + limbs[i]) % divisor;
            }
            return (int) rest;
        }

        /** Divides by a prime as often as it goes: how often. */
        int strip(int prime) {
            int times = 0;
            for (int guard = 0; guard < limbs.length * 30 && size > 0 && prime > 1; guard++) {
                if (remainder(prime) != 0) {
                    break;
                }
                divide(prime);
                times++;
            }
            return times;
        }

        void stripAll(int set) {
            for (int place = 0; place < Primes.MANY; place++) {
                if ((set >> place & 1) == 1) {
                    strip(Primes.at(place));
                }
            }
        }

        boolean isSmooth(int set, Big room) {
            room.copy(this);
            room.stripAll(set);
            return room.size == 1 && room.limbAt(0) == 1;
        }

        int compareWith(Big other) {
            if (size != other.size) {
                return size < other.size ? -1 : 1;
            }
            for (int i = Math.min(size, limbs.length) - 1; i >= 0; i--) {
                int mine = limbs[i];
                int its = other.limbAt(i);
                if (mine != its) {
                    return mine < its ? -1 : 1;
                }
            }
            return 0;
        }

        int digits() {
            int many = 1;
            for (int rest = limbAt(size - 1); rest >= 10; rest /= 10) {
                many++;
            }
            return size < 1 ? 1 : (size - 1) * LIMB_DIGITS + many;
        }

        int digitAt(int k) {
            if (k < 0 || k >= digits()) {
                return NONE;
            }
            int limb = limbAt(k / LIMB_DIGITS);
            for (int i = k % LIMB_DIGITS; i > 0; i--) {
                limb /= 10;
            }
            return limb % 10;
        }

        /** The number, if it is below 10 to the 9; else NONE. */
        int asInt() {
            return size > 1 ? NONE : limbAt(0);
        }

        /** The number as far as 64 bits hold it. */
        int limbAt(int i) {
            return i >= 0 && i < size && i < limbs.length ? limbs[i] : 0;
        }

        private void trim() {
            for (int i = Math.min(size, limbs.length) - 1; i >= 0 && limbs[i] == 0; i--) {
                size = i;
            }
        }
    }

    /** The fraction of a square root, walked step by step. */
    private static final class Fraction {
        private static final int MOST_STEPS = 1000000;
        private static final int LIMBS = 12;

        final Big p = new Big(LIMBS);
        final Big r = new Big(LIMBS);
        private final Big pAhead = new Big(LIMBS);
        private final Big rAhead = new Big(LIMBS);
        private final Big room = new Big(LIMBS);
        private int square;
        private int root;
        private int m;
        private int d;
        private int a;

        private void begin(int ofSquare) {
            square = ofSquare;
            root = (int) Primes.rootOf(ofSquare);
            m = 0;
            d = 1;
            a = root;
        }

        private void advance() {
            m = d * a - m;
            d = d == 0 ? 0 : (square - m * m) / d;
            a = d == 0 ? 0 : (root + m) / d;
        }

        private void walk(int ofSquare, int steps) {
            begin(ofSquare);
            for (int k = 0; k < steps && k < MOST_STEPS; k++) {
                advance();
            }
        }

        /** Leaves in p and r the nearing one ahead of the step that ends the first round: the round. */
        int walkRound(int ofSquare) {
            begin(ofSquare);
            pAhead.setTo(1);
            rAhead.setTo(0);
            p.setTo(root);
            r.setTo(1);
            for (int steps = 1; steps < MOST_STEPS; steps++) {
                advance();
                if (d == 1) {
                    return steps;
                }
                follow(p, pAhead);
                follow(r, rAhead);
            }
            return 1;
        }

        private void follow(Big latest, Big ahead) {
            room.copy(latest);
            room.multiply(a);
            room.plus(ahead);
            ahead.copy(latest);
            latest.copy(room);
        }

        int wholeBehind(int ofSquare, int steps) {
            walk(ofSquare, steps);
            return a;
        }

        int divisorBehind(int ofSquare, int steps) {
            walk(ofSquare, steps);
            return d;
        }

        int nearingLeft(int ofSquare, int steps, int what, int modulus) {
            begin(ofSquare);
            if (modulus < 1) {
                return 0;
            }
            long ahead = what == 0 ? 1 : 0;
            long latest = (what == 0 ? root : 1) % modulus;
            for (int k = 0; k < steps && k < MOST_STEPS; k++) {
                advance();
                long following = (a * latest + ahead) % modulus;
                ahead = latest;
                latest = following;
            }
            return (int) latest;
        }

        /** What is left is below twice the root, so longs that wrap around have it right though p and r are longer. */
        int leavesBehind(int ofSquare, int steps) {
            begin(ofSquare);
            long over = 1;
            long under = 0;
            long top = root;
            long low = 1;
            for (int k = 0; k < steps && k < MOST_STEPS; k++) {
                advance();
                long nextTop = a * top + over;
                long nextLow = a * low + under;
                over = top;
                under = low;
                top = nextTop;
                low = nextLow;
            }
            return (int) (top * top - ofSquare * low * low);
        }
    }

    /** A class: its square, its unit, and what of the unit's powers is told again and again. */
    private static final class Unit {
        private static final int LIMBS = 8;
        private static final int MOST_INDEXES = 9;

        final Big x = new Big(LIMBS);
        final Big y = new Big(LIMBS);
        private final int[] lengths = new int[MOST_INDEXES + 1];
        int q;
        int square;
        int root;
        int round;
        int indexes;

        void learn(int ofQ, int ofSquare, Fraction fraction, Big room) {
            q = ofQ;
            square = ofSquare;
            root = (int) Primes.rootOf(ofSquare);
            round = fraction.walkRound(ofSquare);
            indexes = 0;
            if (isNegative()) {
                x.setProduct(fraction.p, fraction.p);
                room.setProduct(fraction.r, fraction.r);
                room.multiply(square);
                x.plus(room);
                y.setProduct(fraction.p, fraction.r);
                y.multiply(2);
            } else {
                x.copy(fraction.p);
                y.copy(fraction.r);
            }
        }

        boolean isNegative() {
            return round % 2 == 1;
        }

        void noteDigits(int i, int digits) {
            if (i >= 0 && i < lengths.length) {
                lengths[i] = digits;
            }
        }

        int powerDigits(int i) {
            return i > 0 && i < lengths.length ? lengths[i] : 1;
        }

        boolean hasIndex(int i) {
            return i >= 1 && i <= 31 && (indexes >> i - 1 & 1) == 1;
        }

        int powerLeft(int i, int modulus) {
            if (modulus < 2 || i < 1) {
                return 1;
            }
            long first = x.remainder(modulus);
            long before = 1;
            long now = first;
            for (int k = 1; k < i && k < LAST_POWER; k++) {
                long after = Math.floorMod(2 * first * now - before, (long) modulus);
                before = now;
                now = after;
            }
            return (int) now;
        }

        int firstEntry(int prime) {
            if (prime < 2) {
                return NONE;
            }
            long first = x.remainder(prime);
            long before = 0;
            long now = y.remainder(prime);
            for (int i = 1; i <= LAST_ENTRY; i++) {
                if (now == 0) {
                    return i;
                }
                long after = Math.floorMod(2 * first * now - before, (long) prime);
                before = now;
                now = after;
            }
            return NONE;
        }
    }

    /** Two smooth numbers that were found: the lesser one, where it comes from, the powers in both. */
    private static final class Couple {
        final Big low;
        private final int[] lowPowers = new int[Primes.MANY];
        private final int[] highPowers = new int[Primes.MANY];
        int family;
        int index;

        Couple(int limbs) {
            low = new Big(limbs);
        }

        void learn(Big number, int apart, int ofFamily, int ofIndex, Big room) {
            low.copy(number);
            family = ofFamily;
            index = ofIndex;
            room.copy(number);
            for (int place = 0; place < lowPowers.length; place++) {
                lowPowers[place] = room.strip(Primes.at(place));
            }
            room.copy(number);
            room.increase(apart);
            for (int place = 0; place < highPowers.length; place++) {
                highPowers[place] = room.strip(Primes.at(place));
            }
        }

        int lowPower(int place) {
            return place >= 0 && place < lowPowers.length ? lowPowers[place] : 0;
        }

        int highPower(int place) {
            return place >= 0 && place < highPowers.length ? highPowers[place] : 0;
        }

        int madeOfBits() {
            int set = 0;
            for (int place = 0; place < Primes.MANY; place++) {
                set |= lowPower(place) + highPower(place) > 0 ? 1 << place : 0;
            }
            return set;
        }

        int weight() {
            int all = 0;
            for (int place = 0; place < Primes.MANY; place++) {
                all += lowPower(place) + highPower(place);
            }
            return all;
        }

        int primesMoreBelow() {
            int more = 0;
            for (int place = 0; place < Primes.MANY; place++) {
                more += (lowPower(place) > 0 ? 1 : 0) - (highPower(place) > 0 ? 1 : 0);
            }
            return more;
        }
    }

    /** All couples of smooth numbers so and so far apart, by the units of all classes of a set of primes. */
    private static final class Search {
        private static final int MOST_CLASSES = 32;
        private static final int MOST_COUPLES = 64;
        private static final int LIMBS = 32;
        private static final int LAST_WITNESS = 1000;

        private final Unit[] units = new Unit[MOST_CLASSES];
        private final Couple[] couples = new Couple[MOST_COUPLES];
        private final int[] products = new int[MOST_CLASSES];
        private final Unit noUnit = new Unit();
        private final Couple noCouple = new Couple(1);
        private final Fraction fraction = new Fraction();
        private final Big before = new Big(LIMBS);
        private final Big now = new Big(LIMBS);
        private final Big after = new Big(LIMBS);
        private final Big candidate = new Big(LIMBS);
        private final Big room = new Big(LIMBS);
        /** 1 for neighbours, 2 for numbers that are two apart. */
        final int apart;
        int bits = NONE;
        int bound;
        int classes;
        int found;

        Search(int apartBy) {
            apart = apartBy;
            for (int i = 0; i < units.length; i++) {
                units[i] = new Unit();
            }
            for (int i = 0; i < couples.length; i++) {
                couples[i] = new Couple(LIMBS);
            }
        }

        void fill(int ofBits) {
            bits = ofBits;
            bound = Primes.boundOf(ofBits);
            classes = 0;
            found = 0;
            for (int set = 0; set < SETS; set++) {
                int q = Primes.product(set);
                if ((set & ~ofBits) == 0 && isProductOfClass(q)) {
                    placeProduct(q);
                }
            }
            for (int k = 0; k < classes && k < products.length; k++) {
                Unit unit = unitAt(k);
                unit.learn(products[k], apart == 1 ? 2 * products[k] : products[k], fraction, room);
                searchPowers(k, unit);
            }
        }

        /** A class whose D were a square has no unit. */
        private boolean isProductOfClass(int q) {
            return apart == 1 ? q != 2 : q != 1;
        }

        private void placeProduct(int q) {
            if (classes >= products.length) {
                return;
            }
            int place = classes;
            for (int k = classes; k >= 1 && k < products.length && products[k - 1] > q; k--) {
                products[k] = products[k - 1];
                place = k - 1;
            }
            if (place >= 0 && place < products.length) {
                products[place] = q;
                classes++;
            }
        }

        private void searchPowers(int k, Unit unit) {
            before.setTo(1);
            now.copy(unit.x);
            for (int i = 1; i <= bound; i++) {
                unit.noteDigits(i, now.digits());
                if (becomesCandidate() && candidate.isSmooth(bits, room)) {
                    candidate.increase(apart);
                    if (candidate.isSmooth(bits, room)) {
                        unit.indexes |= 1 << i - 1;
                        becomesCandidate();
                        enter(k, i);
                    }
                }
                if (i < bound) {
                    toNextPower(unit);
                }
            }
        }

        /** Makes of the power that stands in now the number that may be a couple's lesser one. */
        private boolean becomesCandidate() {
            candidate.copy(now);
            candidate.decrease();
            if (apart == 1) {
                candidate.divide(2);
                return now.remainder(2) == 1;
            }
            return true;
        }

        private void toNextPower(Unit unit) {
            after.setProduct(unit.x, now);
            after.multiply(2);
            after.minus(before);
            before.copy(now);
            now.copy(after);
        }

        private void enter(int k, int i) {
            if (found < 0 || found >= couples.length) {
                return;
            }
            Couple couple = coupleFor(found);
            couple.learn(candidate, apart, k, i, room);
            int place = found;
            for (int j = found; j >= 1 && j < couples.length; j--) {
                Couple lesser = coupleFor(j - 1);
                if (lesser.low.compareWith(candidate) < 0) {
                    break;
                }
                couples[j] = lesser;
                place = j - 1;
            }
            if (place >= 0 && place < couples.length) {
                couples[place] = couple;
                found++;
            }
        }

        private Couple coupleFor(int i) {
            Couple couple = i >= 0 && i < couples.length ? couples[i] : noCouple;
            return couple == null ? noCouple : couple;
        }

        boolean isClass(int k) {
            return k >= 0 && k < classes;
        }

        boolean isCouple(int i) {
            return i >= 0 && i < found;
        }

        Unit unitAt(int k) {
            Unit unit = k >= 0 && k < units.length ? units[k] : noUnit;
            return unit == null ? noUnit : unit;
        }

        Couple coupleAt(int i) {
            return isCouple(i) ? coupleFor(i) : noCouple;
        }

        int negatives() {
            int many = 0;
            for (int k = 0; k < classes; k++) {
                many += unitAt(k).isNegative() ? 1 : 0;
            }
            return many;
        }

        int classesWithCouples() {
            int many = 0;
            for (int k = 0; k < classes; k++) {
                many += unitAt(k).indexes != 0 ? 1 : 0;
            }
            return many;
        }

        int allRounds() {
            int all = 0;
            for (int k = 0; k < classes; k++) {
                all += unitAt(k).round;
            }
            return all;
        }

        int placeOf(Big number) {
            for (int i = 0; i < found; i++) {
                if (coupleAt(i).low.compareWith(number) == 0) {
                    return i;
                }
            }
            return NONE;
        }

        int lessThan(Big number) {
            int many = 0;
            for (int i = 0; i < found; i++) {
                many += coupleAt(i).low.compareWith(number) < 0 ? 1 : 0;
            }
            return many;
        }

        /** Whether a couple's lesser number is one more than that of the couple ahead of it. */
        boolean goesOn(int i) {
            if (i < 1 || !isCouple(i)) {
                return false;
            }
            room.copy(coupleAt(i - 1).low);
            room.increase(1);
            return room.compareWith(coupleAt(i).low) == 0;
        }

        int pairsInRun(int first) {
            int last = first;
            for (int i = first + 1; i < found && goesOn(i); i++) {
                last = i;
            }
            return last - first + 1;
        }

        private boolean startsRun(int i) {
            return !goesOn(i) && goesOn(i + 1);
        }

        int runsOfThree() {
            int many = 0;
            for (int i = 0; i < found; i++) {
                many += startsRun(i) ? 1 : 0;
            }
            return many;
        }

        int startOfRun(int which) {
            int many = 0;
            for (int i = 0; i < found && which >= 0; i++) {
                if (startsRun(i)) {
                    if (many == which) {
                        return i;
                    }
                    many++;
                }
            }
            return NONE;
        }

        int measureOf(int i, int measure) {
            Couple couple = coupleAt(i);
            switch (measure) {
                case 0:
                    return i;
                case 1:
                    return couple.low.digits();
                case 2:
                    return couple.family;
                case 3:
                    return couple.index;
                case 4:
                    return couple.weight();
                case 5:
                    return Primes.greatest(couple.madeOfBits());
                case 6:
                    return Primes.product(couple.madeOfBits());
                case 7:
                    return couple.low.remainder(10000);
                case 8:
                    return couple.primesMoreBelow();
                default:
                    return NO_MEASURE;
            }
        }

        int witnessOf(int k, int i) {
            Unit unit = unitAt(k);
            if (unit.hasIndex(i)) {
                return 0;
            }
            for (int s = 2; s < LAST_WITNESS; s++) {
                if (Primes.isPrime(s) && !Primes.has(bits, s) && dividesCouple(unit, i, s)) {
                    return s;
                }
            }
            return NO_WITNESS;
        }

        /** The power is odd: left by twice s it tells what its half, downward, leaves by s. */
        private static boolean dividesCouple(Unit unit, int i, int s) {
            int low = (unit.powerLeft(i, 2 * s) - 1) / 2;
            return s > 0 && (low % s == 0 || (low + 1) % s == 0);
        }
    }

    /** Pairs by their measures, and how many of their relations are free of one another. */
    private static final class Ranking {
        private static final int MOST_PLACES = 64;
        private static final int FIELD = 10007;

        private final int[] places = new int[MOST_PLACES];
        private final int[] basis = new int[Primes.MANY * Primes.MANY];
        private final int[] row = new int[Primes.MANY];

        int placed(Search pairs, int measure, int other, int place) {
            for (int i = 0; i < pairs.found && i < places.length; i++) {
                int hole = i;
                for (int j = i; j >= 1 && j < places.length; j--) {
                    if (!isAhead(pairs, measure, other, i, places[j - 1])) {
                        break;
                    }
                    places[j] = places[j - 1];
                    hole = j - 1;
                }
                if (hole >= 0 && hole < places.length) {
                    places[hole] = i;
                }
            }
            return place >= 0 && place < places.length ? places[place] : NONE;
        }

        /** Of pairs that are like in both measures the lesser one stands already where it must. */
        private static boolean isAhead(Search pairs, int measure, int other, int one, int two) {
            int first = Integer.compare(pairs.measureOf(one, measure), pairs.measureOf(two, measure));
            return first < 0 || first == 0 && pairs.measureOf(one, other) < pairs.measureOf(two, other);
        }

        int rankOf(Search pairs, int many) {
            Arrays.fill(basis, 0);
            int rank = 0;
            for (int i = 0; i < many && i < pairs.found; i++) {
                Couple couple = pairs.coupleAt(i);
                for (int place = 0; place < row.length; place++) {
                    row[place] = Math.floorMod(couple.highPower(place) - couple.lowPower(place), FIELD);
                }
                rank += entersBasis() ? 1 : 0;
            }
            return rank;
        }

        /** Row k of the basis is empty or has its first entry that is not 0 at k. */
        private boolean entersBasis() {
            for (int k = 0; k < row.length; k++) {
                if (row[k] != 0 && basisAt(k, k) == 0) {
                    for (int j = 0; j < row.length && k * Primes.MANY + j < basis.length; j++) {
                        basis[k * Primes.MANY + j] = row[j];
                    }
                    return true;
                }
                int mine = row[k];
                int its = basisAt(k, k);
                for (int j = 0; j < row.length && mine != 0; j++) {
                    row[j] = (int) Math.floorMod((long) row[j] * its - (long) basisAt(k, j) * mine, (long) FIELD);
                }
            }
            return false;
        }

        private int basisAt(int k, int j) {
            int place = k * Primes.MANY + j;
            return place >= 0 && place < basis.length ? basis[place] : 0;
        }
    }

    /** The smooth numbers up to the sieve's end, one by one, each with the primes that it is made of. */
    private static final class Smooths {
        private static final int MOST = 1600;

        private final int[] values = new int[MOST];
        private final int[] sets = new int[MOST];
        /** For each prime the place of the number that it multiplies next. */
        private final int[] turns = new int[Primes.MANY];
        private int bits = NONE;
        private int many;

        void fill(int ofBits) {
            if (bits == ofBits) {
                return;
            }
            bits = ofBits;
            Arrays.fill(turns, 0);
            values[0] = 1;
            sets[0] = 0;
            many = 1;
            for (int k = 1; k < values.length && k < sets.length; k++) {
                int least = leastProduct();
                if (least > SIEVE_END) {
                    return;
                }
                values[k] = least;
                sets[k] = takeTurns(least);
                many = k + 1;
            }
        }

        private int productOf(int place) {
            boolean counts = (bits >> place & 1) == 1 && place >= 0 && place < turns.length;
            return counts ? valueOr(turns[place], SIEVE_END) * Primes.at(place) : SIEVE_END + 1;
        }

        private int leastProduct() {
            int least = SIEVE_END + 1;
            for (int place = 0; place < Primes.MANY; place++) {
                least = Math.min(least, productOf(place));
            }
            return least;
        }

        private int takeTurns(int product) {
            int set = 0;
            for (int place = 0; place < turns.length; place++) {
                if (productOf(place) == product) {
                    set |= setAt(turns[place]) | 1 << place;
                    turns[place]++;
                }
            }
            return set;
        }

        private int valueOr(int k, int otherwise) {
            return k >= 0 && k < many && k < values.length ? values[k] : otherwise;
        }

        private int setAt(int k) {
            return k >= 0 && k < many && k < sets.length ? sets[k] : 0;
        }

        int valueAt(int k) {
            return valueOr(k, NONE);
        }

        /** The place of the first number above n, which is also how many there are up to n. */
        int placeAbove(int n) {
            int from = 0;
            int to = many;
            for (int guard = 0; guard < 32 && from < to; guard++) {
                int between = (from + to) / 2;
                if (valueAt(between) <= n) {
                    from = between + 1;
                } else {
                    to = between;
                }
            }
            return from;
        }

        private boolean holds(int n) {
            return n >= 1 && valueAt(placeAbove(n) - 1) == n;
        }

        private boolean isCouple(int v, int d, int upTo) {
            return v <= upTo - d && holds(v + d);
        }

        int couplesUpTo(int d, int upTo) {
            int all = 0;
            for (int k = 0; k < many; k++) {
                all += isCouple(valueAt(k), d, upTo) ? 1 : 0;
            }
            return all;
        }

        boolean saysTheSame(Search search, int upTo) {
            int like = 0;
            for (int k = 0; k < many; k++) {
                if (isCouple(valueAt(k), search.apart, upTo)) {
                    if (!search.isCouple(like) || search.coupleAt(like).low.asInt() != valueAt(k)) {
                        return false;
                    }
                    like++;
                }
            }
            int more = search.isCouple(like) ? search.coupleAt(like).low.asInt() : NONE;
            return more == NONE || more > upTo - search.apart;
        }

        int widest(int upTo, int what) {
            int width = NONE;
            int lesser = NONE;
            for (int k = 1; k < many && valueAt(k) <= upTo; k++) {
                int d = valueAt(k) - valueAt(k - 1);
                if (d > width) {
                    width = d;
                    lesser = valueAt(k - 1);
                }
            }
            return what == 0 ? width : lesser;
        }

        int sumsUpTo(int upTo, boolean aboveRadical) {
            int all = 0;
            for (int i = 0; i < many && valueAt(i) <= upTo; i++) {
                int at = i;
                for (int j = i; j < many && valueAt(i) + valueAt(j) <= upTo; j++) {
                    int sum = valueAt(i) + valueAt(j);
                    for (int guard = 0; guard < many && at < many && valueAt(at) < sum; guard++) {
                        at++;
                    }
                    boolean counts = valueAt(at) == sum && (setAt(i) & setAt(j)) == 0;
                    if (counts && (!aboveRadical || sum > Primes.product(setAt(i) | setAt(j) | setAt(at)))) {
                        all++;
                    }
                }
            }
            return all;
        }
    }

    /** The first smooth numbers of all, as long as they are, each a row of limbs in one long row. */
    private static final class Greats {
        private static final int LIMBS = 58;

        private final int[] rows = new int[(LAST_GREAT + 1) * LIMBS];
        private final int[] sizes = new int[LAST_GREAT + 1];
        private final int[] turns = new int[Primes.MANY];
        private final Big[] products = new Big[Primes.MANY];
        private final Big shown = new Big(LIMBS);
        private int bits = NONE;
        private int many;

        Greats() {
            for (int place = 0; place < products.length; place++) {
                products[place] = new Big(LIMBS);
            }
        }

        void begin(int ofBits) {
            if (bits == ofBits) {
                return;
            }
            bits = ofBits;
            many = 0;
            shown.setTo(1);
            keep(shown);
            for (int place = 0; place < turns.length; place++) {
                turns[place] = 0;
                multiplyTurn(place);
            }
        }

        /** Goes on as far as number k, if there is one: without primes 1 is the only one. */
        boolean reaches(int k) {
            for (int i = many; i <= k && i <= LAST_GREAT && bits != 0; i++) {
                goOn();
            }
            return k >= 0 && k < many;
        }

        Big shown(int k) {
            shown.load(rows, k * LIMBS, k >= 0 && k < sizes.length ? sizes[k] : 0);
            return shown;
        }

        private void goOn() {
            int best = NONE;
            for (int place = 0; place < Primes.MANY; place++) {
                boolean counts = (bits >> place & 1) == 1;
                if (counts && (best == NONE || productAt(place).compareWith(productAt(best)) < 0)) {
                    best = place;
                }
            }
            shown.copy(productAt(best));
            keep(shown);
            for (int place = 0; place < turns.length; place++) {
                if ((bits >> place & 1) == 1 && productAt(place).compareWith(shown) == 0) {
                    turns[place]++;
                }
            }
            for (int place = 0; place < turns.length; place++) {
                multiplyTurn(place);
            }
        }

        private Big productAt(int place) {
            Big product = place >= 0 && place < products.length ? products[place] : shown;
            return product == null ? shown : product;
        }

        private void multiplyTurn(int place) {
            if (place >= 0 && place < turns.length && (bits >> place & 1) == 1) {
                int turn = turns[place];
                Big product = productAt(place);
                product.load(rows, turn * LIMBS, turn >= 0 && turn < sizes.length ? sizes[turn] : 0);
                product.multiply(Primes.at(place));
            }
        }

        private void keep(Big number) {
            if (many >= 0 && many < sizes.length) {
                sizes[many] = number.store(rows, many * LIMBS);
                many++;
            }
        }
    }

    /** The bytes that were fed. */
    private static final class Tape {
        private static final int MOST = 2000;

        private final byte[] bytes = new byte[MOST];
        int length;

        boolean hasRoomFor(int more) {
            return length <= bytes.length - more;
        }

        void appendFour(int word) {
            for (int shift = 24; shift >= 0; shift -= 8) {
                if (length >= 0 && length < bytes.length) {
                    bytes[length] = (byte) (word >> shift);
                    length++;
                }
            }
        }

        boolean cutTo(int n) {
            if (n < 0 || n > length) {
                return false;
            }
            length = n;
            return true;
        }

        int byteAt(int k) {
            return k >= 0 && k < length && k < bytes.length ? bytes[k] & 255 : NONE;
        }

        /** How many digits the tape is, if it is a number of at most so many; else NONE. */
        int numberDigits(int most) {
            if (length < 1 || length > most || byteAt(0) == '0') {
                return NONE;
            }
            for (int k = 0; k < length; k++) {
                if (byteAt(k) < '0' || byteAt(k) > '9') {
                    return NONE;
                }
            }
            return length;
        }
    }

    /** The text by which all classes are told, with what each power comes to. */
    private static final class Proof {
        private static final int MOST = 2048;

        private final byte[] bytes = new byte[MOST];
        int length;

        void write(Search search) {
            length = 0;
            for (int k = 0; k < search.classes; k++) {
                Unit unit = search.unitAt(k);
                writeInt(unit.q);
                write(':');
                writeBig(unit.x);
                write(',');
                writeBig(unit.y);
                for (int i = 1; i <= search.bound; i++) {
                    write(';');
                    writeWitness(search.witnessOf(k, i));
                }
                write('.');
            }
        }

        int byteAt(int k) {
            return k >= 0 && k < length && k < bytes.length ? bytes[k] & 255 : NONE;
        }

        private void writeWitness(int witness) {
            if (witness == 0) {
                write('s');
            } else if (witness == NO_WITNESS) {
                write('?');
            } else {
                writeInt(witness);
            }
        }

        private void writeInt(int value) {
            int unitOfDigit = 1;
            for (int guard = 0; guard < 9 && value / unitOfDigit >= 10; guard++) {
                unitOfDigit *= 10;
            }
            for (int rest = unitOfDigit; rest > 0; rest /= 10) {
                write((char) ('0' + value / rest % 10));
            }
        }

        private void writeBig(Big number) {
            for (int k = number.digits() - 1; k >= 0; k--) {
                write((char) ('0' + number.digitAt(k)));
            }
        }

        private void write(char sign) {
            if (length >= 0 && length < bytes.length) {
                bytes[length] = (byte) sign;
                length++;
            }
        }
    }
}
