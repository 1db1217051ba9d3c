import java.nio.charset.StandardCharsets;

/** Promise by promise: ordinary calls, the edges that the document names, and wrong arguments. */
public final class PromisesTest {
    private static final int NONE = -1;
    private static final int LEAST = Integer.MIN_VALUE;
    private static final int MOST = Integer.MAX_VALUE;
    /** The primes 2, 3, 5 and 2, 3, 5, 7, 11 and 2, 11, 13, 17, as bits. */
    private static final int THREE = 7;
    private static final int FIVE = 31;
    private static final int GREAT = 113;
    private static final int[] PAIRS_OF_THREE = {1, 2, 3, 4, 5, 8, 9, 15, 24, 80};
    private static final int[] PAIRS_OF_FIVE = {1, 2, 3, 4, 5, 6, 7, 8, 9, 10, 11, 14, 15, 20, 21, 24, 27, 32, 35, 44,
        48, 49, 54, 55, 63, 80, 98, 99, 120, 125, 175, 224, 242, 384, 440, 539, 2400, 3024, 4374, 9800};
    private static final int[] TWOS_OF_THREE = {1, 2, 3, 4, 6, 8, 10, 16, 18, 25, 30, 48, 160};
    private static final String PROOF_OF_TWO = "1:3,2;s;3;5.";
    private static final String PROOF_OF_THREE = "1:3,2;s;s;7.3:5,2;s;s;11.5:19,6;s;19;13.6:7,2;s;7;13."
            + "10:9,2;s;s;17.15:11,2;s;11;7.30:31,4;s;31;7.";
    private static int wrong = 0;
    private static int checked = 0;

    public static void main(String[] args) {
        primesComeAndGo();
        whatTheyAre();
        classesAndTheirUnits();
        powersOfUnits();
        fractionsStepByStep();
        leastOnesAndEntries();
        pairsOneByOne();
        measuresAndOrder();
        runsAndRank();
        otherSets();
        whatPairsAreMadeOf();
        smoothOnesOneByOne();
        sieveAndGaps();
        sumsAndApart();
        greatOnes();
        twoApart();
        witnesses();
        tapeAndNumber();
        proofs();
        floats();
        System.out.println(checked + " answers checked, " + wrong + " are not as due");
        System.exit(wrong == 0 ? 0 : 1);
    }

    private static SmoothNeighbours of(int bits) {
        SmoothNeighbours x = new SmoothNeighbours();
        x.choose(bits);
        return x;
    }

    private static void due(int promise, String call, long got, long want) {
        checked++;
        if (got != want) {
            wrong++;
            System.out.println("promise " + promise + ": " + call + " answered " + got + ", due is " + want);
        }
    }

    private static void due(int promise, String call, boolean got, boolean want) {
        due(promise, call, got ? 1 : 0, want ? 1 : 0);
    }

    // promises 1 to 4
    private static void primesComeAndGo() {
        SmoothNeighbours x = new SmoothNeighbours();
        due(1, "is(0)", x.is(0), 3);
        due(1, "is(4)", x.is(4), 4);
        due(1, "ofNumber(5) of the first number", x.ofNumber(5), 1);
        due(1, "end(1) of the first tape", x.end(1), NONE);
        due(1, "octet(0) ahead of a proof", x.octet(0), NONE);
        due(2, "add(5)", x.add(5), 10);
        due(2, "add(5) again", x.add(5), NONE);
        due(2, "add(7)", x.add(7), 23);
        due(2, "add(11)", x.add(11), 40);
        due(2, "add(13), a sixth", x.add(13), NONE);
        due(2, "add(2), there", x.add(2), NONE);
        for (int prime : new int[] {0, 1, 4, 19, -2, LEAST, MOST}) {
            due(2, "add(" + prime + ")", x.add(prime), NONE);
        }
        due(2, "is(0) behind", x.is(0), FIVE);
        due(3, "drop(13)", x.drop(13), NONE);
        due(3, "drop(4)", x.drop(4), NONE);
        due(3, "drop(0)", x.drop(0), NONE);
        due(3, "drop(2)", x.drop(2), 0);
        due(3, "drop(2) again", x.drop(2), NONE);
        due(3, "is(0) behind", x.is(0), 30);
        due(3, "drop(11)", x.drop(11), 0);
        due(3, "drop(7)", x.drop(7), 0);
        due(3, "drop(5)", x.drop(5), 0);
        due(3, "drop(3)", x.drop(3), 0);
        due(3, "is(0) without primes", x.is(0), 0);
        due(2, "add(2) to none", x.add(2), 1);
        due(2, "add(17) to 2", x.add(17), 2);
        due(4, "choose(31)", x.choose(FIVE), 40);
        due(4, "choose(63), six", x.choose(63), NONE);
        due(4, "choose(127), seven", x.choose(127), NONE);
        due(4, "choose(128)", x.choose(128), NONE);
        due(4, "choose(-1)", x.choose(-1), NONE);
        due(4, "choose(least)", x.choose(LEAST), NONE);
        due(4, "is(0) behind", x.is(0), FIVE);
        due(4, "choose(79)", x.choose(79), 36);
        due(4, "choose(0)", x.choose(0), 0);
        due(4, "choose(1)", x.choose(1), 1);
        due(4, "choose(7)", x.choose(THREE), 10);
        due(4, "choose(7) again", x.choose(THREE), 10);
    }

    // promise 5
    private static void whatTheyAre() {
        int[] three = {THREE, 3, 7, 3, 10, 2, 5, 2, 2, 7, 14};
        SmoothNeighbours x = of(THREE);
        for (int what = 0; what < three.length; what++) {
            due(5, "is(" + what + ")", x.is(what), three[what]);
        }
        due(5, "is(11)", x.is(11), NONE);
        due(5, "is(-1)", x.is(-1), NONE);
        due(5, "is(least)", x.is(LEAST), NONE);
        int[] none = {0, 0, 1, 3, 0, 0, 0, 0, 1, 0, 1};
        x = of(0);
        for (int what = 0; what < none.length; what++) {
            due(5, "is(" + what + ") without primes", x.is(what), none[what]);
        }
        int[] bounds = {0, 3, 1, 3, 2, 3, 4, 3, 8, 4, 16, 6, 32, 7, 64, 9, 127 - 3, 9};
        for (int i = 0; i < bounds.length; i += 2) {
            due(5, "is(3) of " + bounds[i], of(bounds[i]).is(3), bounds[i + 1]);
        }
        due(5, "is(2) without 2", of(124).is(2), 32);
        due(5, "is(2) with 2", of(FIVE).is(2), 31);
        due(5, "is(7)", of(FIVE).is(7), 4);
        due(5, "is(5)", of(FIVE).is(5), 6);
    }

    // promises 6, 8, 56
    private static void classesAndTheirUnits() {
        SmoothNeighbours x = of(THREE);
        int[][] classes = {{1, 2, 1, 1, 1, 2, 1, 1, 3}, {3, 6, 2, 2, 0, 2, 1, 1, 3}, {5, 10, 3, 1, 1, 1, 2, 1, 1},
            {6, 12, 3, 2, 0, 1, 1, 1, 1}, {10, 20, 4, 2, 0, 2, 1, 1, 3}, {15, 30, 5, 2, 0, 1, 2, 1, 1},
            {30, 60, 7, 4, 0, 1, 2, 1, 1}};
        for (int k = 0; k < classes.length; k++) {
            for (int what = 0; what < 9; what++) {
                due(6, "of(" + k + ", " + what + ")", x.of(k, what), classes[k][what]);
            }
        }
        due(6, "of(7, 0)", x.of(7, 0), NONE);
        due(6, "of(-1, 0)", x.of(-1, 0), NONE);
        due(6, "of(0, 9)", x.of(0, 9), NONE);
        due(6, "of(0, -1)", x.of(0, -1), NONE);
        due(6, "of(0, 0) without primes", of(0).of(0, 0), 1);
        SmoothNeighbours y = of(GREAT);
        due(6, "of(14, 1)", y.of(14, 1), 9724);
        due(6, "of(14, 3)", y.of(14, 3), 48);
        due(6, "of(14, 6)", y.of(14, 6), 23);
        due(6, "of(14, 7)", y.of(14, 7), 21);
        digits(8, "71564033179137291313951", k -> y.unit(14, 0, k));
        digits(8, "725725416517444462860", k -> y.unit(14, 1, k));
        due(8, "unit(14, 2, 0)", y.unit(14, 2, 0), NONE);
        due(8, "unit(14, -1, 0)", y.unit(14, -1, 0), NONE);
        due(8, "unit(15, 0, 0)", y.unit(15, 0, 0), NONE);
        due(8, "unit(-1, 0, 0)", y.unit(-1, 0, 0), NONE);
        digits(8, "19", k -> x.unit(2, 0, k));
        digits(56, "3", k -> x.half(2, 0, k));
        digits(56, "1", k -> x.half(2, 1, k));
        digits(56, "1", k -> x.half(0, 0, k));
        due(56, "half(1, 0, 0), not negative", x.half(1, 0, 0), NONE);
        due(56, "half(2, 2, 0)", x.half(2, 2, 0), NONE);
        due(56, "half(2, -1, 0)", x.half(2, -1, 0), NONE);
        due(56, "half(7, 0, 0)", x.half(7, 0, 0), NONE);
        due(56, "half(-1, 0, 0)", x.half(-1, 0, 0), NONE);
        SmoothNeighbours z = of(33);
        due(56, "the class of 13 is negative", z.of(1, 4), 1);
        digits(56, "5", k -> z.half(1, 0, k));
        digits(56, "1", k -> z.half(1, 1, k));
    }

    private interface Digit {
        int at(int k);
    }

    /** All digits of a number from the lowest on, and none behind the highest and ahead of the lowest. */
    private static void digits(int promise, String number, Digit digit) {
        for (int k = 0; k < number.length(); k++) {
            due(promise, "digit " + k + " of " + number, digit.at(k), number.charAt(number.length() - 1 - k) - '0');
        }
        for (int k : new int[] {-1, number.length(), number.length() + 1, LEAST, MOST}) {
            due(promise, "digit " + k + " of " + number, digit.at(k), NONE);
        }
    }

    // promises 9, 10
    private static void powersOfUnits() {
        SmoothNeighbours x = of(THREE);
        int[] xOfTen = {1, 9, 161, 2889};
        for (int i = 0; i < xOfTen.length; i++) {
            due(9, "power(4, " + i + ", 10000)", x.power(4, i, 10000), xOfTen[i]);
            due(9, "power(4, " + i + ", 2)", x.power(4, i, 2), 1);
            due(10, "powerLong(4, " + i + ")", x.powerLong(4, i), String.valueOf(xOfTen[i]).length());
        }
        due(9, "power(28, 60, 9999)", of(79).power(28, 60, 9999), 8515);
        for (int[] others : new int[][] {{7, 1, 10}, {-1, 1, 10}, {0, 61, 10}, {0, -1, 10}, {0, 1, 1}, {0, 1, 0},
            {0, 1, 10001}, {0, 1, -5}}) {
            due(9, "power of others", x.power(others[0], others[1], others[2]), NONE);
        }
        due(10, "powerLong(4, 4)", x.powerLong(4, 4), NONE);
        due(10, "powerLong(4, -1)", x.powerLong(4, -1), NONE);
        due(10, "powerLong(7, 1)", x.powerLong(7, 1), NONE);
        int[] lengths = {1, 9, 18, 28, 37, 46, 55, 64, 73, 82};
        for (int i = 0; i < lengths.length; i++) {
            due(10, "powerLong(28, " + i + ")", of(79).powerLong(28, i), lengths[i]);
        }
        due(10, "powerLong(28, 10)", of(79).powerLong(28, 10), NONE);
    }

    // promises 7, 35, 36, 37
    private static void fractionsStepByStep() {
        SmoothNeighbours x = of(THREE);
        int[] a = {7, 1, 2, 1, 14, 1, 2, 1, 14};
        long[] p = {7, 8, 23, 31, 457, 488, 1433, 1921, 28327};
        long[] r = {1, 1, 3, 4, 59, 63, 185, 248, 3657};
        for (int k = 0; k < a.length; k++) {
            due(7, "step(6, " + k + ")", x.step(6, k), a[k]);
            due(35, "leaves(6, " + k + ")", x.leaves(6, k), p[k] * p[k] - 60 * r[k] * r[k]);
            due(36, "nearing(6, " + k + ", 0, 9999)", x.nearing(6, k, 0, 9999), p[k] % 9999);
            due(36, "nearing(6, " + k + ", 1, 10000)", x.nearing(6, k, 1, 10000), r[k]);
            due(36, "nearing(6, " + k + ", 1, 2)", x.nearing(6, k, 1, 2), r[k] % 2);
        }
        for (int k : new int[] {9, -1, LEAST, MOST}) {
            due(7, "step(6, " + k + ")", x.step(6, k), NONE);
            due(35, "leaves(6, " + k + ")", x.leaves(6, k), -1000000);
            due(36, "nearing(6, " + k + ", 0, 10)", x.nearing(6, k, 0, 10), NONE);
        }
        due(7, "step(7, 0)", x.step(7, 0), NONE);
        due(7, "step(-1, 0)", x.step(-1, 0), NONE);
        due(35, "leaves(7, 0)", x.leaves(7, 0), -1000000);
        due(35, "leaves(-1, 0)", x.leaves(-1, 0), -1000000);
        due(35, "leaves(14, 48), long ones", of(GREAT).leaves(14, 48), 98 * 98 - 9724);
        due(35, "leaves(14, 95)", of(GREAT).leaves(14, 95), 1);
        for (int[] others : new int[][] {{7, 0, 0, 10}, {-1, 0, 0, 10}, {6, 0, 2, 10}, {6, 0, -1, 10}, {6, 0, 0, 1},
            {6, 0, 0, 10001}, {6, 0, 0, 0}, {6, 0, 0, -3}}) {
            due(36, "nearing of others", x.nearing(others[0], others[1], others[2], others[3]), NONE);
        }
        int[] middles = {NONE, 2, NONE, 3, 4, 5, 4, NONE};
        for (int k = 0; k < middles.length; k++) {
            due(37, "middle(" + k + ")", x.middle(k), middles[k]);
        }
        due(37, "middle(-1)", x.middle(-1), NONE);
    }

    // promises 34, 38
    private static void leastOnesAndEntries() {
        SmoothNeighbours x = of(THREE);
        int[][] entries = {{2, 1}, {3, 2}, {5, 3}, {7, 3}};
        for (int[] entry : entries) {
            due(34, "entry(0, " + entry[0] + ")", x.entry(0, entry[0]), entry[1]);
        }
        due(34, "entry(2, 5), a prime of D", x.entry(2, 5), 5);
        due(34, "entry(0, 97)", x.entry(0, 97) > 0 && x.entry(0, 97) <= 98, true);
        for (int prime : new int[] {-2, 0, 1, 4, 91, 98, 99, 101, LEAST, MOST}) {
            due(34, "entry(0, " + prime + ")", x.entry(0, prime), NONE);
        }
        due(34, "entry(7, 2)", x.entry(7, 2), NONE);
        due(34, "entry(-1, 2)", x.entry(-1, 2), NONE);
        due(38, "least(0, 1)", x.least(0, 1), 2);
        due(38, "least(2, 1)", x.least(2, 1), 6);
        due(38, "least(2, -1)", x.least(2, -1), 1);
        due(38, "least(0, 7)", x.least(0, 7), 1);
        due(38, "least(0, -2), the square 0", x.least(0, -2), 1);
        due(38, "least(0, 0)", x.least(0, 0), NONE);
        due(38, "least(1, -1)", x.least(1, -1), NONE);
        due(38, "least(2, 1000)", x.least(2, 1000), 30);
        due(38, "least(2, -1000)", x.least(2, -1000), 10);
        due(38, "least(1, -998)", x.least(1, -998), 13);
        due(38, "least(0, 1000)", x.least(0, 1000), NONE);
        SmoothNeighbours y = of(FIVE);
        due(38, "least(6, 1001), where 2 would do", y.least(6, 1001), NONE);
        due(38, "least(9, -1001), where 5 would do", y.least(9, -1001), NONE);
        due(38, "least(0, least)", y.least(0, LEAST), NONE);
        due(38, "least(7, 1)", x.least(7, 1), NONE);
        due(38, "least(-1, 1)", x.least(-1, 1), NONE);
    }

    // promises 11, 12, 13, 15
    private static void pairsOneByOne() {
        for (int pair = 0; pair < PAIRS_OF_FIVE.length; pair++) {
            SmoothNeighbours y = of(FIVE);
            int place = pair;
            int n = PAIRS_OF_FIVE[pair];
            digits(11, String.valueOf(n), k -> y.digit(place, k));
            due(12, "left(" + pair + ", 10000)", y.left(pair, 10000), n);
            due(12, "left(" + pair + ", 7)", y.left(pair, 7), n % 7);
            due(12, "left(" + pair + ", 2)", y.left(pair, 2), n % 2);
            due(13, "small(" + pair + ")", y.small(pair), n);
            for (int prime : new int[] {2, 3, 5, 7, 11}) {
                due(15, "inPair(" + pair + ", " + prime + ", 0)", y.inPair(pair, prime, 0), power(n, prime));
                due(15, "inPair(" + pair + ", " + prime + ", 1)", y.inPair(pair, prime, 1), power(n + 1, prime));
            }
        }
        SmoothNeighbours x = of(FIVE);
        for (int pair : new int[] {-1, 40, 41, LEAST, MOST}) {
            due(11, "digit(" + pair + ", 0)", x.digit(pair, 0), NONE);
            due(12, "left(" + pair + ", 10)", x.left(pair, 10), NONE);
            due(13, "small(" + pair + ")", x.small(pair), NONE);
            due(15, "inPair(" + pair + ", 2, 0)", x.inPair(pair, 2, 0), NONE);
        }
        for (int m : new int[] {1, 0, -1, 10001, LEAST}) {
            due(12, "left(0, " + m + ")", x.left(0, m), NONE);
        }
        for (int prime : new int[] {13, 4, 1, 0, -2}) {
            due(15, "inPair(0, " + prime + ", 0)", x.inPair(0, prime, 0), NONE);
        }
        due(15, "inPair(0, 2, 2)", x.inPair(0, 2, 2), NONE);
        due(15, "inPair(0, 2, -1)", x.inPair(0, 2, -1), NONE);
        due(13, "small(0) without pairs", of(30).small(0), NONE);
    }

    private static int power(int n, int prime) {
        int times = 0;
        for (int rest = n; rest % prime == 0; rest /= prime) {
            times++;
        }
        return times;
    }

    // promises 14, 16, 17, 18, 19
    private static void measuresAndOrder() {
        SmoothNeighbours x = of(THREE);
        int[][] measures = {
            {0, 1, 2, 3, 4, 5, 6, 7, 8, 9}, {1, 1, 1, 1, 1, 1, 1, 2, 2, 2}, {0, 1, 3, 4, 5, 0, 2, 6, 1, 4},
            {1, 1, 1, 1, 1, 2, 1, 1, 2, 2}, {1, 2, 3, 3, 3, 5, 4, 6, 6, 9}, {2, 3, 3, 5, 5, 3, 5, 5, 5, 5},
            {2, 6, 6, 10, 30, 6, 30, 30, 30, 30}, PAIRS_OF_THREE, {-1, 0, 0, 0, -1, 0, -1, 1, 1, 1}};
        for (int measure = 0; measure < 9; measure++) {
            int most = 0;
            for (int pair = 0; pair < 10; pair++) {
                due(14, "measure(" + pair + ", " + measure + ")", x.measure(pair, measure), measures[measure][pair]);
                most = measures[measure][pair] > measures[measure][most] ? pair : most;
            }
            due(18, "top(" + measure + ")", x.top(measure), most);
        }
        for (int[] others : new int[][] {{10, 0}, {-1, 0}, {0, 9}, {0, -1}, {LEAST, LEAST}}) {
            due(14, "measure of others", x.measure(others[0], others[1]), -100);
        }
        due(14, "measure(0, 7), below 10000", of(FIVE).measure(39, 7), 9800);
        order(x, 2, 3, new int[] {0, 5, 1, 8, 6, 2, 3, 9, 4, 7});
        order(x, 8, 6, new int[] {0, 4, 6, 1, 2, 5, 3, 7, 8, 9});
        order(x, 1, 8, new int[] {0, 4, 6, 1, 2, 3, 5, 7, 8, 9});
        order(x, 0, 0, new int[] {0, 1, 2, 3, 4, 5, 6, 7, 8, 9});
        for (int[] others : new int[][] {{9, 0, 0}, {-1, 0, 0}, {0, 9, 0}, {0, -1, 0}, {0, 0, 10}, {0, 0, -1}}) {
            due(16, "order of others", x.order(others[0], others[1], others[2]), NONE);
        }
        due(17, "count(6, 6, 10)", x.count(6, 6, 10), 4);
        due(17, "count(8, -1, -1)", x.count(8, -1, -1), 3);
        due(17, "count(7, 80, 80)", x.count(7, 80, 80), 1);
        due(17, "count(7, 5, 4)", x.count(7, 5, 4), 0);
        due(17, "count(0, least, most)", x.count(0, LEAST, MOST), 10);
        due(17, "count(9, 0, 9)", x.count(9, 0, 9), NONE);
        due(17, "count(-1, 0, 9)", x.count(-1, 0, 9), NONE);
        due(17, "count(3, 0, 9) without pairs", of(0).count(3, 0, 9), 0);
        due(18, "top(9)", x.top(9), NONE);
        due(18, "top(-1)", x.top(-1), NONE);
        due(18, "top(0) without pairs", of(0).top(0), NONE);
        int[] below = {0, 7, 10, 10};
        for (int e = 0; e < below.length; e++) {
            due(19, "below(" + e + ")", x.below(e), below[e]);
        }
        due(19, "below(400)", x.below(400), 10);
        due(19, "below(401)", x.below(401), NONE);
        due(19, "below(-1)", x.below(-1), NONE);
    }

    private static void order(SmoothNeighbours x, int measure, int other, int[] places) {
        for (int place = 0; place < places.length; place++) {
            due(16, "order(" + measure + ", " + other + ", " + place + ")", x.order(measure, other, place), places[place]);
        }
    }

    // promises 20, 21, 52
    private static void runsAndRank() {
        SmoothNeighbours x = of(THREE);
        int[][] runs = {{0, 6}, {5, 3}};
        for (int i = 0; i < runs.length; i++) {
            due(20, "run(" + i + ", 0)", x.run(i, 0), runs[i][0]);
            due(20, "run(" + i + ", 1)", x.run(i, 1), runs[i][1]);
        }
        due(20, "run(2, 0)", x.run(2, 0), NONE);
        due(20, "run(-1, 0)", x.run(-1, 0), NONE);
        due(20, "run(0, 2)", x.run(0, 2), NONE);
        due(20, "run(0, -1)", x.run(0, -1), NONE);
        SmoothNeighbours y = of(FIVE);
        due(20, "run(0, 1) of five", y.run(0, 1), 12);
        due(20, "run(3, 0) of five", y.run(3, 0), 20);
        due(20, "run(5, 0) of five", y.run(5, 0), 26);
        int[] ranks = {0, 1, 2, 2, 3, 3, 3, 3, 3, 3, 3};
        for (int many = 0; many < ranks.length; many++) {
            due(21, "rank(" + many + ")", x.rank(many), ranks[many]);
        }
        due(21, "rank(11)", x.rank(11), NONE);
        due(21, "rank(-1)", x.rank(-1), NONE);
        int[] ranksOfFive = {0, 1, 2, 2, 3, 3, 4, 4, 4, 4, 5, 5, 5};
        int[] ranksWithSeventeen = {0, 1, 2, 2, 3, 3, 4, 4, 4, 4, 4, 4, 5};
        for (int many = 0; many < ranksOfFive.length; many++) {
            due(21, "rank(" + many + ") of five", y.rank(many), ranksOfFive[many]);
            due(21, "rank(" + many + ") with 17", of(79).rank(many), ranksWithSeventeen[many]);
        }
        due(21, "rank(40) of five", y.rank(40), 5);
        due(21, "rank(41) of five", y.rank(41), NONE);
        due(21, "rank(0) without pairs", of(0).rank(0), 0);
        due(52, "threes()", x.threes(), 5);
        due(52, "threes() of five", y.threes(), 15);
        due(52, "threes() of 2", of(1).threes(), 0);
        due(52, "threes() without primes", of(0).threes(), 0);
    }

    // promises 29, 30, 31, 43
    private static void otherSets() {
        SmoothNeighbours x = of(THREE);
        due(29, "would(7)", x.would(7), 23);
        due(29, "would(5), there", x.would(5), NONE);
        due(29, "would(4)", x.would(4), NONE);
        due(29, "would(19)", x.would(19), NONE);
        due(29, "would(13) of five", of(FIVE).would(13), NONE);
        due(29, "would(2) of none", of(0).would(2), 1);
        due(29, "would(3) of none", of(0).would(3), 0);
        due(30, "without(5)", x.without(5), 4);
        due(30, "without(2)", x.without(2), 0);
        due(30, "without(7)", x.without(7), NONE);
        due(30, "without(0)", x.without(0), NONE);
        due(30, "without(11) of five", of(FIVE).without(11), 23);
        due(31, "bestPrime()", x.bestPrime(), 7);
        due(31, "bestPrime() of five", of(FIVE).bestPrime(), NONE);
        due(31, "bestPrime() of none", of(0).bestPrime(), 2);
        due(31, "bestPrime() of 2", of(1).bestPrime(), 3);
        due(31, "bestPrime() of 3 and 5", of(6).bestPrime(), 2);
        int[] growth = {0, 1, 4, 10, 23, 40};
        SmoothNeighbours y = of(FIVE);
        for (int k = 0; k < growth.length; k++) {
            due(43, "growth(" + k + ")", y.growth(k), growth[k]);
        }
        due(43, "growth(6)", y.growth(6), NONE);
        due(43, "growth(-1)", y.growth(-1), NONE);
        due(43, "growth(2) of 2, 11, 13, 17", of(GREAT).growth(2), 1);
        due(29, "is(0) behind", x.is(0), THREE);
        due(29, "is(4) behind", x.is(4), 10);
    }

    // promises 32, 44, 45
    private static void whatPairsAreMadeOf() {
        SmoothNeighbours x = of(THREE);
        int[] made = {1, 3, 3, 5, 7, 3, 7, 7, 7, 7};
        for (int pair = 0; pair < made.length; pair++) {
            due(32, "madeOf(" + pair + ")", x.madeOf(pair), made[pair]);
        }
        due(32, "madeOf(10)", x.madeOf(10), NONE);
        due(32, "madeOf(-1)", x.madeOf(-1), NONE);
        due(44, "madeBy(1)", x.madeBy(1), 1);
        due(44, "madeBy(3)", x.madeBy(3), 3);
        due(44, "madeBy(5)", x.madeBy(5), 1);
        due(44, "madeBy(7)", x.madeBy(THREE), 5);
        for (int set : new int[] {0, 2, 4, 6, 15, 128, -1, LEAST, MOST}) {
            due(44, "madeBy(" + set + ")", x.madeBy(set), 0);
        }
        due(45, "share(2)", x.share(2), 10);
        due(45, "share(3)", x.share(3), 8);
        due(45, "share(5)", x.share(5), 6);
        due(45, "share(7)", x.share(7), NONE);
        due(45, "share(6)", x.share(6), NONE);
        due(45, "share(0)", x.share(0), NONE);
        due(45, "share(3) without 2", of(6).share(3), 0);
    }

    // promises 22, 23, 24, 25
    private static void smoothOnesOneByOne() {
        SmoothNeighbours x = of(THREE);
        int[] first = {1, 2, 3, 4, 5, 6, 8, 9, 10, 12, 15, 16, 18, 20, 24, 25, 27, 30};
        int place = 0;
        for (int n = 1; n <= 30; n++) {
            boolean is = first[place] == n;
            due(22, "smooth(" + n + ")", x.smooth(n), is);
            due(25, "next(" + (n - 1) + ")", x.next(n - 1), first[place]);
            place += is ? 1 : 0;
            due(23, "smoothUpTo(" + n + ")", x.smoothUpTo(n), place);
        }
        for (int k = 0; k < first.length; k++) {
            due(24, "smoothAt(" + k + ")", x.smoothAt(k), first[k]);
        }
        due(22, "smooth(0)", x.smooth(0), false);
        due(22, "smooth(-4)", x.smooth(-4), false);
        due(22, "smooth(least)", x.smooth(LEAST), false);
        due(22, "smooth(most)", x.smooth(MOST), false);
        due(22, "smooth(2 to the 30)", x.smooth(1 << 30), true);
        due(22, "smooth(1) without primes", of(0).smooth(1), true);
        due(22, "smooth(2) without primes", of(0).smooth(2), false);
        due(23, "smoothUpTo(0)", x.smoothUpTo(0), 0);
        due(23, "smoothUpTo(200000)", x.smoothUpTo(200000), 365);
        due(23, "smoothUpTo(200001)", x.smoothUpTo(200001), NONE);
        due(23, "smoothUpTo(-1)", x.smoothUpTo(-1), NONE);
        due(23, "smoothUpTo(200000) without primes", of(0).smoothUpTo(200000), 1);
        due(24, "smoothAt(364)", x.smoothAt(364), 200000);
        due(24, "smoothAt(365)", x.smoothAt(365), NONE);
        due(24, "smoothAt(-1)", x.smoothAt(-1), NONE);
        due(24, "smoothAt(1) without primes", of(0).smoothAt(1), NONE);
        due(25, "next(199999)", x.next(199999), 200000);
        due(25, "next(200000)", x.next(200000), NONE);
        due(25, "next(most)", x.next(MOST), NONE);
        due(25, "next(-1)", x.next(-1), NONE);
        due(25, "next(131072) of 2", of(1).next(131072), NONE);
        due(25, "next(131071) of 2", of(1).next(131071), 131072);
    }

    // promises 26, 27, 28
    private static void sieveAndGaps() {
        SmoothNeighbours x = of(THREE);
        for (int k = 0; k < PAIRS_OF_THREE.length; k++) {
            int upTo = PAIRS_OF_THREE[k] + 1;
            due(26, "sieved(" + upTo + ")", x.sieved(upTo), k + 1);
            due(26, "sieved(" + (upTo - 1) + ")", x.sieved(upTo - 1), k);
            due(27, "agrees(" + upTo + ")", x.agrees(upTo), true);
            due(27, "agrees(" + (upTo - 1) + ")", x.agrees(upTo - 1), true);
        }
        due(26, "sieved(0)", x.sieved(0), 0);
        due(26, "sieved(200000)", x.sieved(200000), 10);
        due(26, "sieved(200001)", x.sieved(200001), NONE);
        due(26, "sieved(-1)", x.sieved(-1), NONE);
        due(27, "agrees(0)", x.agrees(0), true);
        due(27, "agrees(200000) of five", of(FIVE).agrees(200000), true);
        due(27, "agrees(200000) of none", of(0).agrees(200000), true);
        due(27, "agrees(200001)", x.agrees(200001), false);
        due(27, "agrees(-1)", x.agrees(-1), false);
        due(28, "gap(30, 0)", x.gap(30, 0), 4);
        due(28, "gap(30, 1)", x.gap(30, 1), 20);
        due(28, "gap(23, 0)", x.gap(23, 0), 3);
        due(28, "gap(23, 1)", x.gap(23, 1), 12);
        due(28, "gap(2, 0)", x.gap(2, 0), 1);
        due(28, "gap(2, 1)", x.gap(2, 1), 1);
        due(28, "gap(1, 0)", x.gap(1, 0), NONE);
        due(28, "gap(0, 1)", x.gap(0, 1), NONE);
        due(28, "gap(200000, 0) without primes", of(0).gap(200000, 0), NONE);
        due(28, "gap(200000, 0) of 2", of(1).gap(200000, 0), 65536);
        due(28, "gap(200000, 1) of 2", of(1).gap(200000, 1), 65536);
        due(28, "gap(30, 2)", x.gap(30, 2), NONE);
        due(28, "gap(30, -1)", x.gap(30, -1), NONE);
        due(28, "gap(200001, 0)", x.gap(200001, 0), NONE);
        due(28, "gap(-1, 0)", x.gap(-1, 0), NONE);
    }

    // promises 39, 40
    private static void sumsAndApart() {
        SmoothNeighbours x = of(THREE);
        due(39, "apart(1, 81)", x.apart(1, 81), 10);
        due(39, "apart(1, 80)", x.apart(1, 80), 9);
        due(39, "apart(7, 16)", x.apart(7, 16), 6);
        due(39, "apart(1000, 1001)", x.apart(1000, 1001), 0);
        due(39, "apart(1000, 2000)", of(THREE).apart(1000, 2000), 9);
        due(39, "apart(1001, 2000)", x.apart(1001, 2000), NONE);
        due(39, "apart(0, 10)", x.apart(0, 10), NONE);
        due(39, "apart(-1, 10)", x.apart(-1, 10), NONE);
        due(39, "apart(1, 0)", x.apart(1, 0), 0);
        due(39, "apart(1, 200001)", x.apart(1, 200001), NONE);
        due(39, "apart(1, -1)", x.apart(1, -1), NONE);
        SmoothNeighbours y = new SmoothNeighbours();
        int[][] sums = {{0, 0, 0}, {1, 0, 0}, {2, 1, 0}, {3, 2, 0}, {4, 3, 0}, {8, 3, 0}, {9, 4, 1}, {3000, 4, 1}};
        for (int[] sum : sums) {
            due(40, "sums(" + sum[0] + ", 0)", y.sums(sum[0], 0), sum[1]);
            due(40, "sums(" + sum[0] + ", 1)", y.sums(sum[0], 1), sum[2]);
        }
        due(40, "sums(3001, 0)", y.sums(3001, 0), NONE);
        due(40, "sums(-1, 0)", y.sums(-1, 0), NONE);
        due(40, "sums(9, 2)", y.sums(9, 2), NONE);
        due(40, "sums(9, -1)", y.sums(9, -1), NONE);
        due(40, "sums(3000, 0) without 2", of(6).sums(3000, 0), 0);
        due(40, "sums(128, 1) of three", x.sums(128, 1), 4);
        due(40, "sums(127, 1) of three", x.sums(127, 1), 3);
        y.add(5);
        due(40, "sums(8, 0) with 5 more", y.sums(8, 0), 7);
    }

    // promises 41, 42
    private static void greatOnes() {
        SmoothNeighbours x = of(THREE);
        due(41, "greatLong(0)", x.greatLong(0), 1);
        due(41, "greatLong(364)", x.greatLong(364), 6);
        digits(42, "200000", d -> x.greatDigit(364, d));
        digits(42, "1", d -> x.greatDigit(0, d));
        due(41, "greatLong(400)", x.greatLong(400), 6);
        due(41, "greatLong(401)", x.greatLong(401), NONE);
        due(41, "greatLong(-1)", x.greatLong(-1), NONE);
        due(42, "greatDigit(401, 0)", x.greatDigit(401, 0), NONE);
        due(42, "greatDigit(-1, 0)", x.greatDigit(-1, 0), NONE);
        SmoothNeighbours seventeen = of(64);
        String longest = java.math.BigInteger.valueOf(17).pow(400).toString();
        due(41, "greatLong(400) of 17", seventeen.greatLong(400), longest.length());
        digits(42, longest, d -> seventeen.greatDigit(400, d));
        SmoothNeighbours none = of(0);
        due(41, "greatLong(0) without primes", none.greatLong(0), 1);
        due(41, "greatLong(1) without primes", none.greatLong(1), NONE);
        due(42, "greatDigit(1, 0) without primes", none.greatDigit(1, 0), NONE);
        none.choose(1);
        due(41, "greatLong(10) of 2", none.greatLong(10), 4);
    }

    // promises 46 to 51
    private static void twoApart() {
        SmoothNeighbours x = of(THREE);
        due(46, "twos()", x.twos(), 13);
        due(46, "twos() of five", of(FIVE).twos(), 49);
        due(46, "twos() of 2", of(1).twos(), 1);
        due(46, "twos() of 3", of(2).twos(), 1);
        due(46, "twos() without primes", of(0).twos(), 0);
        due(47, "twoClasses()", x.twoClasses(), 7);
        due(47, "twoClasses() of five", of(FIVE).twoClasses(), 31);
        due(47, "twoClasses() without primes", of(0).twoClasses(), 0);
        int[][] classes = {{2, 1, 1, 1, 1, 2}, {3, 1, 2, 1, 1, 3}, {5, 2, 1, 1, 1, 2}, {6, 2, 2, 1, 1, 2},
            {10, 3, 1, 2, 1, 1}, {15, 3, 2, 1, 1, 2}, {30, 5, 2, 2, 1, 1}};
        for (int k = 0; k < classes.length; k++) {
            for (int what = 0; what < 6; what++) {
                due(48, "twoClass(" + k + ", " + what + ")", x.twoClass(k, what), classes[k][what]);
            }
        }
        for (int[] others : new int[][] {{7, 0}, {-1, 0}, {0, 6}, {0, -1}}) {
            due(48, "twoClass of others", x.twoClass(others[0], others[1]), NONE);
        }
        due(48, "twoClass(0, 0) without primes", of(0).twoClass(0, 0), NONE);
        int[] families = {1, 0, 5, 3, 1, 2, 6, 0, 4, 1, 5, 3, 2};
        int[] indexes = {1, 1, 1, 1, 2, 1, 1, 2, 1, 3, 2, 2, 2};
        for (int i = 0; i < TWOS_OF_THREE.length; i++) {
            int place = i;
            String n = String.valueOf(TWOS_OF_THREE[i]);
            int[] wanted = {n.length(), families[i], indexes[i], TWOS_OF_THREE[i], TWOS_OF_THREE[i], NONE};
            for (int what = 0; what < wanted.length; what++) {
                due(49, "two(" + i + ", " + what + ")", x.two(i, what), wanted[what]);
            }
            digits(50, n, k -> x.twoDigit(place, k));
            due(51, "twosAgree at " + n, x.twosAgree(TWOS_OF_THREE[i] + 2), true);
            due(51, "twosAgree below " + n, x.twosAgree(TWOS_OF_THREE[i] + 1), true);
        }
        for (int[] others : new int[][] {{13, 0}, {-1, 0}, {0, 6}, {0, -1}}) {
            due(49, "two of others", x.two(others[0], others[1]), NONE);
        }
        due(49, "two(48, 3) of five", of(FIVE).two(48, 3), 9600);
        due(49, "two(48, 4) of five", of(FIVE).two(48, 4), 19600);
        due(50, "twoDigit(13, 0)", x.twoDigit(13, 0), NONE);
        due(50, "twoDigit(-1, 0)", x.twoDigit(-1, 0), NONE);
        due(51, "twosAgree(0)", x.twosAgree(0), true);
        due(51, "twosAgree(200000)", x.twosAgree(200000), true);
        due(51, "twosAgree(200001)", x.twosAgree(200001), false);
        due(51, "twosAgree(-1)", x.twosAgree(-1), false);
        x.drop(5);
        due(46, "twos() behind drop(5)", x.twos(), 5);
    }

    // promise 33
    private static void witnesses() {
        SmoothNeighbours x = of(THREE);
        int[][] witnesses = {{0, 0, 7}, {0, 0, 11}, {0, 19, 13}, {0, 7, 13}, {0, 0, 17}, {0, 11, 7}, {0, 31, 7}};
        for (int k = 0; k < witnesses.length; k++) {
            for (int i = 1; i <= 3; i++) {
                due(33, "witness(" + k + ", " + i + ")", x.witness(k, i), witnesses[k][i - 1]);
            }
        }
        due(33, "witness(0, 0)", x.witness(0, 0), NONE);
        due(33, "witness(0, 4)", x.witness(0, 4), NONE);
        due(33, "witness(7, 1)", x.witness(7, 1), NONE);
        due(33, "witness(-1, 1)", x.witness(-1, 1), NONE);
        due(33, "witness(0, 1) without primes", of(0).witness(0, 1), 2);
        due(33, "witness(66, 5) of 2, 3, 11, none", of(19).witness(6, 5), -2);
        due(33, "witness(16, 5) of five, none", of(FIVE).witness(16, 5), -2);
        due(33, "witness(15, 4) of five", of(FIVE).witness(15, 4), 881);
        due(33, "witness(21, 7) of 61", of(61).witness(21, 7), 967);
    }

    private static void feedText(SmoothNeighbours x, String text) {
        byte[] bytes = text.getBytes(StandardCharsets.ISO_8859_1);
        x.end(0);
        for (int from = 0; from < bytes.length; from += 20) {
            int[] words = new int[5];
            for (int k = 0; k < 20; k++) {
                words[k / 4] = words[k / 4] << 8 | (from + k < bytes.length ? bytes[from + k] & 255 : 0);
            }
            x.feed(words[0], words[1], words[2], words[3], words[4]);
        }
        x.end(bytes.length);
    }

    // promises 53, 54, 55, 59, 60
    private static void tapeAndNumber() {
        SmoothNeighbours x = of(THREE);
        feedText(x, "4320");
        due(53, "number()", x.number(), 4);
        due(53, "the tape behind it", x.end(1), NONE);
        due(53, "number() of an empty tape", x.number(), NONE);
        int[][] powers = {{2, 5, 0}, {3, 3, 0}, {5, 1, 0}, {7, 0, 0}, {11, 0, 0}, {13, 0, 0}, {17, 0, 0}};
        for (int[] power : powers) {
            due(54, "inNumber(" + power[0] + ", 0)", x.inNumber(power[0], 0), power[1]);
            due(54, "inNumber(" + power[0] + ", 1)", x.inNumber(power[0], 1), power(4321, power[0]));
        }
        for (int[] others : new int[][] {{4, 0}, {19, 0}, {0, 0}, {-2, 0}, {2, 2}, {2, -1}}) {
            due(54, "inNumber of others", x.inNumber(others[0], others[1]), NONE);
        }
        int[] told = {1, NONE, NONE, 1, 10, 4320};
        for (int what = 0; what < told.length; what++) {
            due(55, "ofNumber(" + what + ")", x.ofNumber(what), told[what]);
        }
        due(55, "ofNumber(6)", x.ofNumber(6), NONE);
        due(55, "ofNumber(-1)", x.ofNumber(-1), NONE);
        numbers(x);
        for (int i = 1; i <= 100; i++) {
            due(59, "feed " + i, x.feed(0x01020304, -1, 0, LEAST, MOST), 20 * i);
        }
        due(59, "feed 101", x.feed(0, 0, 0, 0, 0), NONE);
        due(60, "end(2001)", x.end(2001), NONE);
        due(60, "end(2000)", x.end(2000), 2000);
        due(60, "end(-1)", x.end(-1), NONE);
        due(60, "end(1981)", x.end(1981), 1981);
        due(59, "feed to 2001", x.feed(0, 0, 0, 0, 0), NONE);
        due(60, "end(1980)", x.end(1980), 1980);
        due(59, "feed to 2000", x.feed(0, 0, 0, 0, 0), 2000);
        due(60, "end(0)", x.end(0), 0);
        due(60, "end(0) again", x.end(0), 0);
        due(60, "end(1) of an empty tape", x.end(1), NONE);
    }

    private static void numbers(SmoothNeighbours x) {
        for (String none : new String[] {"0", "012", "12a", "-1", " 1", "1\u0000", "1" + "0".repeat(300)}) {
            feedText(x, none);
            due(53, "number() of " + none, x.number(), NONE);
            due(53, "the tape behind " + none, x.end(1), NONE);
            due(53, "the number stays", x.ofNumber(5), 4320);
        }
        feedText(x, "80");
        due(53, "number() of 80", x.number(), 2);
        due(55, "80 is a pair", x.ofNumber(1), 9);
        due(55, "pairs below 80", x.ofNumber(4), 9);
        feedText(x, "160");
        x.number();
        due(55, "160 is one of the twos", x.ofNumber(2), 12);
        due(55, "160 is no pair", x.ofNumber(1), NONE);
        x.drop(5);
        due(55, "160 without 5 is not smooth", x.ofNumber(0), 0);
        due(55, "160 without 5 is none of the twos", x.ofNumber(2), NONE);
        due(55, "what is left of 160", x.ofNumber(3), 1);
        x.add(5);
        feedText(x, "1000000001");
        x.number();
        due(55, "1000000001 is not smooth", x.ofNumber(0), 0);
        due(55, "1000000001 is left whole", x.ofNumber(3), 10);
        String longest = "9".repeat(300);
        feedText(x, longest);
        due(53, "number() of 300 digits", x.number(), 300);
        due(54, "9s and 1 is ten to the 300: 2", x.inNumber(2, 1), 300);
        due(54, "9s and 1 is ten to the 300: 5", x.inNumber(5, 1), 300);
        due(54, "9s: 3", x.inNumber(3, 0), power3(longest));
        due(55, "9s mod 9973", x.ofNumber(5), new java.math.BigInteger(longest).mod(java.math.BigInteger.valueOf(9973)).intValue());
        due(55, "9s: what is left", x.ofNumber(3), 299);
    }

    private static int power3(String digits) {
        java.math.BigInteger rest = new java.math.BigInteger(digits);
        int times = 0;
        while (rest.mod(java.math.BigInteger.valueOf(3)).signum() == 0) {
            rest = rest.divide(java.math.BigInteger.valueOf(3));
            times++;
        }
        return times;
    }

    // promises 57, 58, 61
    private static void proofs() {
        SmoothNeighbours x = of(THREE);
        due(58, "octet(0) ahead of a proof", x.octet(0), NONE);
        due(57, "proof()", x.proof(), PROOF_OF_THREE.length());
        for (int k = 0; k < PROOF_OF_THREE.length(); k++) {
            due(58, "octet(" + k + ")", x.octet(k), PROOF_OF_THREE.charAt(k));
        }
        due(58, "octet behind the end", x.octet(PROOF_OF_THREE.length()), NONE);
        due(58, "octet(-1)", x.octet(-1), NONE);
        x.choose(1);
        due(58, "the proof written latest stays", x.octet(3), PROOF_OF_THREE.charAt(3));
        due(57, "proof() of 2", x.proof(), PROOF_OF_TWO.length());
        due(58, "octet(8)", x.octet(8), '3');
        due(58, "octet(12)", x.octet(12), NONE);
        due(61, "proves() of an empty tape", x.proves(), 0);
        feedText(x, PROOF_OF_TWO);
        due(61, "proves()", x.proves(), NONE);
        due(61, "the tape behind it", x.end(1), NONE);
        feedText(x, PROOF_OF_TWO + ".");
        due(61, "proves(), too long", x.proves(), 12);
        feedText(x, PROOF_OF_TWO.substring(0, 7));
        due(61, "proves(), too short", x.proves(), 7);
        feedText(x, PROOF_OF_TWO.replace('5', '7'));
        due(61, "proves(), another byte", x.proves(), 10);
        feedText(x, "1:3,2;s;3;5\u00ff");
        due(61, "proves(), the last byte", x.proves(), 11);
        x.choose(THREE);
        feedText(x, PROOF_OF_THREE);
        due(61, "proves() of three", x.proves(), NONE);
        due(58, "proves() writes no proof", x.octet(12), NONE);
        due(57, "proof() without primes", of(0).proof(), "1:3,2;2;2;2.".length());
        due(57, "proof() of five", of(FIVE).proof(), 826);
        String text = proofOfFive(0, 400) + proofOfFive(400, 826);
        due(58, "a witness that there is none of is ?", text.indexOf(";?") > 0, true);
        SmoothNeighbours y = of(FIVE);
        feedText(y, text);
        due(61, "proves() of five", y.proves(), NONE);
    }

    /** An object takes 512 calls, so that the proof comes in parts. */
    private static String proofOfFive(int from, int to) {
        SmoothNeighbours x = of(FIVE);
        x.proof();
        StringBuilder text = new StringBuilder();
        for (int k = from; k < to; k++) {
            text.append((char) x.octet(k));
        }
        return text.toString();
    }

    // promises 62, 63
    private static void floats() {
        due(62, "meanLength() without primes", of(0).meanLength(), 0);
        due(62, "meanLength() without 2", of(6).meanLength(), 0);
        due(62, "meanLength()", of(THREE).meanLength(), Float.floatToIntBits(13f / 10f));
        due(62, "meanLength() of five", of(FIVE).meanLength(), Float.floatToIntBits((9 + 2 * 19 + 3 * 8 + 4 * 4) / 40f));
        SmoothNeighbours x = of(THREE);
        due(63, "thick(1)", x.thick(1), Double.doubleToLongBits(1));
        due(63, "thick(7)", x.thick(7), Double.doubleToLongBits(6.0 / 7.0));
        due(63, "thick(30)", x.thick(30), Double.doubleToLongBits(18.0 / 30.0));
        due(63, "thick(200000)", x.thick(200000), Double.doubleToLongBits(365.0 / 200000.0));
        due(63, "thick(200000) without primes", of(0).thick(200000), Double.doubleToLongBits(1.0 / 200000.0));
        for (int n : new int[] {0, -1, 200001, LEAST, MOST}) {
            due(63, "thick(" + n + ")", x.thick(n), 0);
        }
    }
}
