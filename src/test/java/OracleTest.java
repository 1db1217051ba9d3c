import java.lang.reflect.Method;
import java.lang.reflect.Modifier;
import java.math.BigInteger;
import java.nio.charset.StandardCharsets;
import java.util.ArrayList;
import java.util.Arrays;
import java.util.Comparator;
import java.util.HashMap;
import java.util.HashSet;
import java.util.List;
import java.util.Map;
import java.util.Random;
import java.util.Set;
import java.util.TreeSet;

/** Runs of calls on the class and on a model of the document's words: each answer must be the same. */
public final class OracleTest {
    private static final int CALLS = 511;
    /** More calls than a proof needs to come in. */
    private static final int FEEDING = 70;
    private static int wrong = 0;
    private static long compared = 0;

    public static void main(String[] args) throws Exception {
        List<Method> face = face();
        for (int bits = 0; bits < 128; bits++) {
            if (Integer.bitCount(bits) <= 5) {
                run(face, bits, new Random(bits));
            }
        }
        for (int seed = 1000; seed < 1100; seed++) {
            run(face, -1, new Random(seed));
        }
        allOfEverySet();
        System.out.println(compared + " answers compared, " + wrong + " are not as due");
        System.exit(wrong == 0 ? 0 : 1);
    }

    private static List<Method> face() {
        List<Method> face = new ArrayList<>();
        for (Method method : SmoothNeighbours.class.getDeclaredMethods()) {
            if (Modifier.isPublic(method.getModifiers())) {
                face.add(method);
            }
        }
        face.sort(Comparator.comparing(Method::getName));
        return face;
    }

    /** One object for a run; a set of its own, or primes that come and go. */
    private static void run(List<Method> face, int bits, Random random) throws Exception {
        SmoothNeighbours object = new SmoothNeighbours();
        Model model = new Model();
        if (bits >= 0) {
            due("choose(" + bits + ")", object.choose(bits), model.choose(bits));
        }
        for (int i = bits >= 0 ? 1 : 0; i < CALLS; i++) {
            Method method = face.get(random.nextInt(face.size()));
            String name = method.getName();
            boolean changes = name.equals("add") || name.equals("drop") || name.equals("choose");
            if (bits >= 0 && changes) {
                continue;
            }
            boolean mayFeed = i < CALLS - FEEDING;
            if (mayFeed && name.equals("number") && random.nextInt(3) > 0) {
                i += feedNumber(object, model, random);
            } else if (mayFeed && name.equals("proves") && random.nextInt(3) > 0) {
                i += feedProof(object, model, random);
            }
            Object[] arguments = Arguments.forCall(method, model, random);
            Method same = Model.class.getDeclaredMethod(name, method.getParameterTypes());
            due(model.bits + ": " + name + Arrays.toString(arguments), method.invoke(object, arguments),
                    same.invoke(model, arguments));
        }
    }

    private static int feedNumber(SmoothNeighbours object, Model model, Random random) {
        String digits;
        switch (random.nextInt(5)) {
            case 0:
                digits = new BigInteger(random.nextInt(990) + 4, random).toString();
                break;
            case 1:
                digits = Model.smoothProduct(model.bits, random).toString();
                break;
            case 2:
                digits = model.twos.isEmpty() ? "3" : model.twos.get(random.nextInt(model.twos.size())).n.toString();
                break;
            default:
                digits = model.pairs.isEmpty() ? "1" : model.pairs.get(random.nextInt(model.pairs.size())).n.toString();
        }
        return feedText(object, model, random.nextInt(9) == 0 ? "0" + digits : digits);
    }

    private static int feedProof(SmoothNeighbours object, Model model, Random random) {
        StringBuilder text = new StringBuilder(model.proofText());
        int place = random.nextInt(text.length());
        switch (random.nextInt(5)) {
            case 0:
                text.setCharAt(place, (char) (random.nextInt(256)));
                break;
            case 1:
                text.setLength(place);
                break;
            case 2:
                text.append((char) random.nextInt(256));
                break;
            default:
        }
        return feedText(object, model, text.toString());
    }

    private static int feedText(SmoothNeighbours object, Model model, String text) {
        byte[] bytes = text.getBytes(StandardCharsets.ISO_8859_1);
        int calls = 2;
        due("end(0)", object.end(0), model.end(0));
        for (int from = 0; from < bytes.length; from += 20) {
            int[] words = new int[5];
            for (int k = 0; k < 20; k++) {
                int value = from + k < bytes.length ? bytes[from + k] & 255 : 7;
                words[k / 4] = words[k / 4] << 8 | value;
            }
            due("feed", object.feed(words[0], words[1], words[2], words[3], words[4]),
                    model.feed(words[0], words[1], words[2], words[3], words[4]));
            calls++;
        }
        due("end(" + bytes.length + ")", object.end(bytes.length), model.end(bytes.length));
        return calls;
    }

    /** What random calls may miss: every pair, every class, every digit of the proof of every set. */
    private static void allOfEverySet() {
        for (int bits = 0; bits < 128; bits++) {
            if (Integer.bitCount(bits) <= 5) {
                Model model = new Model();
                model.choose(bits);
                proofOf(bits, model.proofText());
                pairsOf(bits, model);
                twosOf(bits, model);
            }
        }
    }

    private static SmoothNeighbours of(int bits) {
        SmoothNeighbours object = new SmoothNeighbours();
        object.choose(bits);
        return object;
    }

    /** An object takes 512 calls, so that each part of the proof has one of its own. */
    private static void proofOf(int bits, String proof) {
        StringBuilder written = new StringBuilder();
        for (int from = 0; from < proof.length(); from += 500) {
            SmoothNeighbours object = of(bits);
            due(bits + ": proof()", object.proof(), proof.length());
            for (int k = from; k < from + 500 && k < proof.length(); k++) {
                written.append((char) object.octet(k));
            }
        }
        due(bits + ": the proof's text", written.toString().equals(proof) ? 1 : 0, 1);
    }

    private static void pairsOf(int bits, Model model) {
        SmoothNeighbours object = new SmoothNeighbours();
        due("choose " + bits, object.choose(bits), model.pairs.size());
        for (int i = 0; i < model.pairs.size(); i++) {
            for (int measure = 0; measure < 9; measure++) {
                due(bits + ": measure(" + i + ", " + measure + ")", object.measure(i, measure), model.measure(i, measure));
            }
        }
    }

    private static void twosOf(int bits, Model model) {
        SmoothNeighbours object = of(bits);
        for (int i = 0; i < model.twos.size(); i++) {
            for (int what = 0; what < 5; what++) {
                due(bits + ": two(" + i + ", " + what + ")", object.two(i, what), model.two(i, what));
            }
        }
    }

    private static void due(String call, Object got, Object want) {
        compared++;
        if (!got.equals(want)) {
            wrong++;
            if (wrong < 100) {
                System.out.println(call + " answered " + got + ", due is " + want);
            }
        }
    }

    /** Arguments that are mostly such as the document names, at their edges too, and now and then others. */
    private static final class Arguments {
        static Object[] forCall(Method method, Model model, Random random) {
            int many = method.getParameterCount();
            Object[] arguments = new Object[many];
            for (int k = 0; k < many; k++) {
                arguments[k] = random.nextInt(25) == 0 ? odd(random) : usual(method.getName(), k, model, random);
            }
            return arguments;
        }

        private static int odd(Random random) {
            int[] some = {Integer.MIN_VALUE, Integer.MAX_VALUE, -1, -2, 0, 1, 127, 128, 200000, 200001, 10001, 1001, -1001, 401,
                3001, 61, 1 << 30, 1 << 31 - 1, -100, 98, 101, random.nextInt()};
            return some[random.nextInt(some.length)];
        }

        private static int usual(String name, int k, Model model, Random random) {
            switch (name) {
                case "add": case "drop": case "would": case "without": case "share":
                    return prime(random);
                case "choose":
                    return random.nextInt(130) - 1;
                case "is":
                    return random.nextInt(13) - 1;
                case "of":
                    return k == 0 ? theClass(model, random) : random.nextInt(11) - 1;
                case "step": case "leaves":
                    return k == 0 ? theClass(model, random) : random.nextInt(40);
                case "unit": case "half":
                    return k == 0 ? theClass(model, random) : k == 1 ? random.nextInt(3) : random.nextInt(25) - 1;
                case "power":
                    return k == 0 ? theClass(model, random) : k == 1 ? random.nextInt(63) - 1 : modulus(random);
                case "powerLong": case "witness":
                    return k == 0 ? theClass(model, random) : random.nextInt(12) - 1;
                case "digit": case "twoDigit":
                    return k == 0 ? random.nextInt(model.twos.size() + 3) - 1 : random.nextInt(11) - 1;
                case "left":
                    return k == 0 ? pair(model, random) : modulus(random);
                case "small": case "madeOf":
                    return pair(model, random);
                case "measure":
                    return k == 0 ? pair(model, random) : random.nextInt(11) - 1;
                case "inPair":
                    return k == 0 ? pair(model, random) : k == 1 ? prime(random) : random.nextInt(4) - 1;
                case "order":
                    return k == 2 ? pair(model, random) : random.nextInt(10);
                case "count":
                    return k == 0 ? random.nextInt(10) : random.nextInt(random.nextBoolean() ? 12 : 10000) - 3;
                case "top":
                    return random.nextInt(11) - 1;
                case "below":
                    return random.nextInt(random.nextBoolean() ? 12 : 402) - 1;
                case "run":
                    return k == 0 ? random.nextInt(6) - 1 : random.nextInt(4) - 1;
                case "rank":
                    return pair(model, random);
                case "smooth":
                    return random.nextBoolean() ? random.nextInt(200) : Model.smoothProduct(model.bits, random).intValue();
                case "smoothAt":
                    return random.nextInt(model.smooths.size() + 2) - 1;
                case "smoothUpTo": case "next": case "sieved": case "agrees": case "thick": case "twosAgree":
                    return upTo(model, random);
                case "gap":
                    return k == 0 ? upTo(model, random) : random.nextInt(3);
                case "apart":
                    return k == 0 ? random.nextInt(1003) - 1 : upTo(model, random);
                case "sums":
                    return k == 0 ? random.nextInt(3003) - 1 : random.nextInt(3);
                case "growth":
                    return random.nextInt(8) - 1;
                case "madeBy":
                    return random.nextBoolean() ? model.bits & random.nextInt(128) : random.nextInt(130) - 1;
                case "entry":
                    return k == 0 ? theClass(model, random) : random.nextInt(103) - 1;
                case "nearing":
                    return k == 0 ? theClass(model, random) : k == 1 ? random.nextInt(40) : k == 2 ? random.nextInt(3) : modulus(random);
                case "middle":
                    return theClass(model, random);
                case "least":
                    return k == 0 ? theClass(model, random) : random.nextInt(2003) - 1001;
                case "greatLong":
                    return random.nextInt(403) - 1;
                case "greatDigit":
                    return k == 0 ? random.nextInt(403) - 1 : random.nextInt(random.nextBoolean() ? 8 : 500) - 1;
                case "twoClass":
                    return k == 0 ? theClass(model, random) : random.nextInt(8) - 1;
                case "two":
                    return k == 0 ? random.nextInt(model.twos.size() + 3) - 1 : random.nextInt(7) - 1;
                case "inNumber":
                    return k == 0 ? prime(random) : random.nextInt(4) - 1;
                case "ofNumber":
                    return random.nextInt(8) - 1;
                case "octet":
                    return random.nextInt(1700) - 1;
                case "end":
                    return random.nextInt(model.tape.size() + 3) - 1;
                default:
                    return random.nextInt();
            }
        }

        private static int prime(Random random) {
            int[] some = {2, 3, 5, 7, 11, 13, 17, 2, 3, 5, 7, 11, 13, 17, 0, 1, 4, 6, 19, -2};
            return some[random.nextInt(some.length)];
        }

        private static int theClass(Model model, Random random) {
            return random.nextInt(model.classes.size() + 2) - 1;
        }

        private static int pair(Model model, Random random) {
            return random.nextInt(model.pairs.size() + 3) - 1;
        }

        private static int modulus(Random random) {
            return random.nextInt(random.nextBoolean() ? 20 : 10003);
        }

        private static int upTo(Model model, Random random) {
            switch (random.nextInt(4)) {
                case 0:
                    return random.nextInt(30) - 1;
                case 1:
                    return random.nextInt(200003) - 1;
                case 2:
                    return model.smooths.get(random.nextInt(model.smooths.size())) + random.nextInt(4) - 1;
                default:
                    return 199998 + random.nextInt(5);
            }
        }
    }

    /** The document's words, as plainly as they can be told, without regard to speed. */
    public static final class Model {
        private static final int[] SEVEN = {2, 3, 5, 7, 11, 13, 17};
        private static final BigInteger ONE = BigInteger.ONE;
        private static final BigInteger TWO = BigInteger.TWO;
        private static final Map<Integer, Continued> FRACTIONS = new HashMap<>();
        private static final Map<Integer, List<Integer>> SMOOTHS = new HashMap<>();
        private static final Map<Integer, int[][]> SUMS = new HashMap<>();
        private static final Map<Integer, Model> CHOSEN = new HashMap<>();

        int bits;
        List<Kind> classes;
        List<Kind> twoKinds;
        List<Pair> pairs;
        List<Pair> twos;
        List<Integer> smooths;
        final List<Integer> tape = new ArrayList<>();
        private String latest = "";
        private BigInteger number = ONE;

        static final class Pair {
            BigInteger n;
            int kind;
            int index;
        }

        static final class Kind {
            int q;
            Continued fraction;
            List<BigInteger> x = new ArrayList<>();
            int pairs;
            int indexes;
        }

        /** The fraction of a root, two rounds of it, and its unit. */
        static final class Continued {
            final int square;
            final int root;
            final int round;
            final List<Integer> a = new ArrayList<>();
            final List<Integer> d = new ArrayList<>();
            final List<BigInteger> p = new ArrayList<>();
            final List<BigInteger> r = new ArrayList<>();
            final BigInteger x;
            final BigInteger y;

            Continued(int ofSquare) {
                square = ofSquare;
                root = BigInteger.valueOf(square).sqrt().intValue();
                int m = 0;
                a.add(root);
                d.add(1);
                p.add(BigInteger.valueOf(root));
                r.add(ONE);
                int steps = 0;
                int first = 0;
                while (first == 0 || steps < 2 * first) {
                    int nowD = d.get(steps);
                    int nowA = a.get(steps);
                    m = nowD * nowA - m;
                    int nextD = (square - m * m) / nowD;
                    int nextA = (root + m) / nextD;
                    BigInteger by = BigInteger.valueOf(nextA);
                    p.add(by.multiply(p.get(steps)).add(steps == 0 ? ONE : p.get(steps - 1)));
                    r.add(by.multiply(r.get(steps)).add(steps == 0 ? BigInteger.ZERO : r.get(steps - 1)));
                    a.add(nextA);
                    d.add(nextD);
                    steps++;
                    if (first == 0 && nextD == 1) {
                        first = steps;
                    }
                }
                round = first;
                BigInteger halfP = p.get(round - 1);
                BigInteger halfR = r.get(round - 1);
                BigInteger norm = halfP.pow(2).subtract(BigInteger.valueOf(square).multiply(halfR.pow(2)));
                if (norm.equals(ONE)) {
                    x = halfP;
                    y = halfR;
                } else {
                    x = halfP.pow(2).add(BigInteger.valueOf(square).multiply(halfR.pow(2)));
                    y = TWO.multiply(halfP).multiply(halfR);
                }
                BigInteger check = x.pow(2).subtract(BigInteger.valueOf(square).multiply(y.pow(2)));
                if (!check.equals(ONE) || norm.equals(ONE) != (round % 2 == 0)) {
                    throw new IllegalStateException("no unit of " + square);
                }
            }

            boolean isNegative() {
                return round % 2 == 1;
            }
        }

        public Model() {
            choose(3);
        }

        static BigInteger smoothProduct(int bits, Random random) {
            BigInteger all = ONE;
            for (int prime : primesOf(bits)) {
                all = all.multiply(BigInteger.valueOf(prime).pow(random.nextInt(9)));
            }
            return all.bitLength() > 990 ? ONE : all;
        }

        static List<Integer> primesOf(int bits) {
            List<Integer> primes = new ArrayList<>();
            for (int k = 0; k < 7; k++) {
                if ((bits >> k & 1) == 1) {
                    primes.add(SEVEN[k]);
                }
            }
            return primes;
        }

        static int bitOf(int prime) {
            for (int k = 0; k < 7; k++) {
                if (SEVEN[k] == prime) {
                    return 1 << k;
                }
            }
            return 0;
        }

        static BigInteger restOf(BigInteger n, List<Integer> primes) {
            BigInteger rest = n;
            for (int prime : primes) {
                BigInteger p = BigInteger.valueOf(prime);
                while (rest.signum() > 0 && rest.mod(p).signum() == 0) {
                    rest = rest.divide(p);
                }
            }
            return rest;
        }

        boolean isSmooth(BigInteger n) {
            return n.signum() > 0 && restOf(n, primesOf(bits)).equals(ONE);
        }

        static int powerIn(BigInteger n, int prime) {
            int times = 0;
            BigInteger rest = n;
            while (rest.mod(BigInteger.valueOf(prime)).signum() == 0) {
                rest = rest.divide(BigInteger.valueOf(prime));
                times++;
            }
            return times;
        }

        private static int length(BigInteger n) {
            return n.toString().length();
        }

        private static int digitOf(BigInteger n, int k) {
            String text = n.toString();
            return k < 0 || k >= text.length() ? -1 : text.charAt(text.length() - 1 - k) - '0';
        }

        private int boundOf() {
            int greatest = is(6);
            return greatest == 0 ? 3 : (int) Math.max(3, (greatest + 1) / 2.0);
        }

        private List<Kind> kinds(int excluded, int factor, List<Pair> found) {
            Set<Integer> products = new TreeSet<>();
            List<Integer> primes = primesOf(bits);
            for (int sub = 0; sub < 1 << primes.size(); sub++) {
                int q = 1;
                for (int k = 0; k < primes.size(); k++) {
                    q *= (sub >> k & 1) == 1 ? primes.get(k) : 1;
                }
                products.add(q);
            }
            products.remove(excluded);
            List<Kind> kinds = new ArrayList<>();
            for (int q : products) {
                Kind kind = new Kind();
                kind.q = q;
                kind.fraction = FRACTIONS.computeIfAbsent(factor * q, Continued::new);
                kind.x.add(ONE);
                kind.x.add(kind.fraction.x);
                for (int i = 2; i <= 60; i++) {
                    kind.x.add(TWO.multiply(kind.fraction.x).multiply(kind.x.get(i - 1)).subtract(kind.x.get(i - 2)));
                }
                for (int i = 1; i <= boundOf(); i++) {
                    BigInteger x = kind.x.get(i);
                    boolean counts = factor == 1 || x.testBit(0);
                    BigInteger n = factor == 1 ? x.subtract(ONE) : x.subtract(ONE).divide(TWO);
                    if (counts && isSmooth(n) && isSmooth(n.add(BigInteger.valueOf(3 - factor)))) {
                        Pair pair = new Pair();
                        pair.n = n;
                        pair.kind = kinds.size();
                        pair.index = i;
                        found.add(pair);
                        kind.pairs++;
                        kind.indexes |= 1 << i - 1;
                    }
                }
                kinds.add(kind);
            }
            found.sort(Comparator.comparing(pair -> pair.n));
            return kinds;
        }

        public int add(int prime) {
            int bit = bitOf(prime);
            if (bit == 0 || (bits & bit) != 0 || Integer.bitCount(bits) == 5) {
                return -1;
            }
            return choose(bits | bit);
        }

        public int drop(int prime) {
            int bit = bitOf(prime);
            return (bits & bit) == 0 ? -1 : choose(bits - bit);
        }

        public int choose(int set) {
            if (set < 0 || set > 127 || Integer.bitCount(set) > 5) {
                return -1;
            }
            bits = set;
            Model like = CHOSEN.get(set);
            if (like == null) {
                pairs = new ArrayList<>();
                twos = new ArrayList<>();
                classes = kinds(2, 2, pairs);
                twoKinds = kinds(1, 1, twos);
                smooths = SMOOTHS.computeIfAbsent(set, key -> smoothsUpTo(primesOf(key)));
                CHOSEN.put(set, this.copied());
            } else {
                pairs = like.pairs;
                twos = like.twos;
                classes = like.classes;
                twoKinds = like.twoKinds;
                smooths = like.smooths;
            }
            return pairs.size();
        }

        private Model copied() {
            Model copy = new Model(0);
            copy.bits = bits;
            copy.pairs = pairs;
            copy.twos = twos;
            copy.classes = classes;
            copy.twoKinds = twoKinds;
            copy.smooths = smooths;
            return copy;
        }

        private Model(int unused) {
        }

        private static List<Integer> smoothsUpTo(List<Integer> primes) {
            List<Integer> all = new ArrayList<>();
            for (int n = 1; n <= 200000; n++) {
                int rest = n;
                for (int prime : primes) {
                    while (rest % prime == 0) {
                        rest /= prime;
                    }
                }
                if (rest == 1) {
                    all.add(n);
                }
            }
            return all;
        }

        public int is(int what) {
            List<Integer> primes = primesOf(bits);
            switch (what) {
                case 0: return bits;
                case 1: return primes.size();
                case 2: return classes.size();
                case 3: return boundOf();
                case 4: return pairs.size();
                case 5: return runs().size();
                case 6: return primes.isEmpty() ? 0 : primes.get(primes.size() - 1);
                case 7: return pairs.isEmpty() ? 0 : length(pairs.get(pairs.size() - 1).n);
                case 8: return (int) classes.stream().filter(kind -> kind.fraction.isNegative()).count();
                case 9: return (int) classes.stream().filter(kind -> kind.pairs > 0).count();
                case 10: return classes.stream().mapToInt(kind -> kind.fraction.round).sum();
                default: return -1;
            }
        }

        private boolean isClass(int k) {
            return k >= 0 && k < classes.size();
        }

        private boolean isPair(int k) {
            return k >= 0 && k < pairs.size();
        }

        public int of(int k, int what) {
            if (!isClass(k)) {
                return -1;
            }
            Kind kind = classes.get(k);
            switch (what) {
                case 0: return kind.q;
                case 1: return kind.fraction.square;
                case 2: return kind.fraction.root;
                case 3: return kind.fraction.round;
                case 4: return kind.fraction.isNegative() ? 1 : 0;
                case 5: return kind.pairs;
                case 6: return length(kind.fraction.x);
                case 7: return length(kind.fraction.y);
                case 8: return kind.indexes;
                default: return -1;
            }
        }

        private boolean isStep(int k, int steps) {
            return isClass(k) && steps >= 0 && steps <= 2 * classes.get(k).fraction.round;
        }

        public int step(int k, int steps) {
            return isStep(k, steps) ? classes.get(k).fraction.a.get(steps) : -1;
        }

        public int unit(int k, int what, int digit) {
            if (!isClass(k) || what < 0 || what > 1) {
                return -1;
            }
            return digitOf(what == 0 ? classes.get(k).fraction.x : classes.get(k).fraction.y, digit);
        }

        public int power(int k, int i, int m) {
            if (!isClass(k) || i < 0 || i > 60 || m < 2 || m > 10000) {
                return -1;
            }
            return classes.get(k).x.get(i).mod(BigInteger.valueOf(m)).intValue();
        }

        public int powerLong(int k, int i) {
            return isClass(k) && i >= 0 && i <= boundOf() ? length(classes.get(k).x.get(i)) : -1;
        }

        public int digit(int pair, int k) {
            return isPair(pair) ? digitOf(pairs.get(pair).n, k) : -1;
        }

        public int left(int pair, int m) {
            boolean is = isPair(pair) && m >= 2 && m <= 10000;
            return is ? pairs.get(pair).n.mod(BigInteger.valueOf(m)).intValue() : -1;
        }

        private static int smallOf(BigInteger n) {
            return n.compareTo(BigInteger.valueOf(1000000000)) < 0 ? n.intValue() : -1;
        }

        public int small(int pair) {
            return isPair(pair) ? smallOf(pairs.get(pair).n) : -1;
        }

        private static int setOf(BigInteger n) {
            int set = 0;
            for (int prime : SEVEN) {
                set |= powerIn(n, prime) > 0 ? bitOf(prime) : 0;
            }
            return set;
        }

        public int measure(int place, int measure) {
            if (!isPair(place)) {
                return -100;
            }
            Pair pair = pairs.get(place);
            BigInteger product = pair.n.multiply(pair.n.add(ONE));
            List<Integer> dividing = primesOf(setOf(product));
            switch (measure) {
                case 0: return place;
                case 1: return length(pair.n);
                case 2: return pair.kind;
                case 3: return pair.index;
                case 4: return dividing.stream().mapToInt(prime -> powerIn(product, prime)).sum();
                case 5: return dividing.get(dividing.size() - 1);
                case 6: return dividing.stream().reduce(1, (a, b) -> a * b);
                case 7: return pair.n.mod(BigInteger.valueOf(10000)).intValue();
                case 8: return Integer.bitCount(setOf(pair.n)) - Integer.bitCount(setOf(pair.n.add(ONE)));
                default: return -100;
            }
        }

        public int inPair(int place, int prime, int what) {
            if (!isPair(place) || (bitOf(prime) & bits) == 0 || what < 0 || what > 1) {
                return -1;
            }
            return powerIn(pairs.get(place).n.add(BigInteger.valueOf(what)), prime);
        }

        private boolean isMeasure(int measure) {
            return measure >= 0 && measure <= 8;
        }

        public int order(int measure, int other, int place) {
            if (!isMeasure(measure) || !isMeasure(other) || !isPair(place)) {
                return -1;
            }
            List<Integer> places = new ArrayList<>();
            for (int i = 0; i < pairs.size(); i++) {
                places.add(i);
            }
            places.sort(Comparator.comparing((Integer i) -> measure(i, measure)).thenComparing(i -> measure(i, other)));
            return places.get(place);
        }

        public int count(int measure, int low, int high) {
            if (!isMeasure(measure)) {
                return -1;
            }
            int many = 0;
            for (int i = 0; i < pairs.size(); i++) {
                many += measure(i, measure) >= low && measure(i, measure) <= high ? 1 : 0;
            }
            return many;
        }

        public int top(int measure) {
            int best = -1;
            for (int i = 0; i < pairs.size() && isMeasure(measure); i++) {
                best = best < 0 || measure(i, measure) > measure(best, measure) ? i : best;
            }
            return best;
        }

        public int below(int e) {
            if (e < 0 || e > 400) {
                return -1;
            }
            return (int) pairs.stream().filter(pair -> pair.n.compareTo(BigInteger.TEN.pow(e)) < 0).count();
        }

        private List<int[]> runs() {
            List<int[]> runs = new ArrayList<>();
            for (int i = 0; i < pairs.size(); ) {
                int j = i;
                while (j + 1 < pairs.size() && pairs.get(j + 1).n.equals(pairs.get(j).n.add(ONE))) {
                    j++;
                }
                if (j > i) {
                    runs.add(new int[] {i, j - i + 2});
                }
                i = j + 1;
            }
            return runs;
        }

        public int run(int i, int what) {
            return i < 0 || i >= runs().size() || what < 0 || what > 1 ? -1 : runs().get(i)[what];
        }

        public int rank(int many) {
            if (many < 0 || many > pairs.size()) {
                return -1;
            }
            BigInteger field = BigInteger.valueOf(10007);
            List<BigInteger[]> rows = new ArrayList<>();
            for (int i = 0; i < many; i++) {
                BigInteger[] row = new BigInteger[7];
                for (int k = 0; k < 7; k++) {
                    int difference = powerIn(pairs.get(i).n.add(ONE), SEVEN[k]) - powerIn(pairs.get(i).n, SEVEN[k]);
                    row[k] = BigInteger.valueOf(difference).mod(field);
                }
                rows.add(row);
            }
            int rank = 0;
            for (int column = 0; column < 7; column++) {
                BigInteger[] pivot = null;
                for (BigInteger[] row : rows) {
                    pivot = row[column].signum() != 0 ? row : pivot;
                }
                if (pivot == null) {
                    continue;
                }
                rank++;
                rows.remove(pivot);
                for (BigInteger[] row : rows) {
                    BigInteger times = row[column].multiply(pivot[column].modInverse(field));
                    for (int k = 0; k < 7; k++) {
                        row[k] = row[k].subtract(times.multiply(pivot[k])).mod(field);
                    }
                }
            }
            return rank;
        }

        public boolean smooth(int n) {
            return isSmooth(BigInteger.valueOf(n));
        }

        private static boolean isUpTo(int n) {
            return n >= 0 && n <= 200000;
        }

        public int smoothUpTo(int n) {
            return isUpTo(n) ? (int) smooths.stream().filter(v -> v <= n).count() : -1;
        }

        public int smoothAt(int k) {
            return k >= 0 && k < smooths.size() ? smooths.get(k) : -1;
        }

        public int next(int n) {
            return n < 0 ? -1 : smooths.stream().filter(v -> v > n).findFirst().orElse(-1);
        }

        private List<Integer> lesserOnes(int d, int upTo) {
            Set<Integer> all = new HashSet<>(smooths);
            List<Integer> lesser = new ArrayList<>();
            for (int v : smooths) {
                if ((long) v + d <= upTo && all.contains(v + d)) {
                    lesser.add(v);
                }
            }
            return lesser;
        }

        public int sieved(int upTo) {
            return isUpTo(upTo) ? lesserOnes(1, upTo).size() : -1;
        }

        private static boolean agree(List<Pair> found, List<Integer> sieved, int d, int upTo) {
            List<Integer> told = new ArrayList<>();
            for (Pair pair : found) {
                if (pair.n.add(BigInteger.valueOf(d)).compareTo(BigInteger.valueOf(upTo)) <= 0) {
                    told.add(pair.n.intValue());
                }
            }
            return told.equals(sieved);
        }

        public boolean agrees(int upTo) {
            return isUpTo(upTo) && agree(pairs, lesserOnes(1, upTo), 1, upTo);
        }

        public int gap(int upTo, int what) {
            if (!isUpTo(upTo) || what < 0 || what > 1) {
                return -1;
            }
            int best = -1;
            int lesser = -1;
            for (int k = 0; k + 1 < smooths.size() && smooths.get(k + 1) <= upTo; k++) {
                int d = smooths.get(k + 1) - smooths.get(k);
                if (d > best) {
                    best = d;
                    lesser = smooths.get(k);
                }
            }
            return what == 0 ? best : lesser;
        }

        private static int pairsOf(int set) {
            Model other = new Model(0);
            return other.choose(set);
        }

        public int would(int prime) {
            int bit = bitOf(prime);
            boolean is = bit != 0 && (bits & bit) == 0 && Integer.bitCount(bits) < 5;
            return is ? pairsOf(bits | bit) : -1;
        }

        public int without(int prime) {
            return (bits & bitOf(prime)) == 0 ? -1 : pairsOf(bits & ~bitOf(prime));
        }

        public int bestPrime() {
            int best = -1;
            for (int prime : SEVEN) {
                if (would(prime) >= 0 && (best < 0 || would(prime) > would(best))) {
                    best = prime;
                }
            }
            return best;
        }

        public int madeOf(int pair) {
            return isPair(pair) ? setOf(pairs.get(pair).n.multiply(pairs.get(pair).n.add(ONE))) : -1;
        }

        private static boolean isPrime(int n) {
            for (int d = 2; d * d <= n; d++) {
                if (n % d == 0) {
                    return false;
                }
            }
            return n >= 2;
        }

        public int witness(int k, int i) {
            if (!isClass(k) || i < 1 || i > boundOf()) {
                return -1;
            }
            BigInteger n = classes.get(k).x.get(i).subtract(ONE).divide(TWO);
            if (isSmooth(n) && isSmooth(n.add(ONE))) {
                return 0;
            }
            for (int s = 2; s < 1000; s++) {
                BigInteger left = n.mod(BigInteger.valueOf(s));
                boolean divides = left.signum() == 0 || left.intValue() == s - 1;
                if (divides && isPrime(s) && (bitOf(s) & bits) == 0) {
                    return s;
                }
            }
            return -2;
        }

        public int entry(int k, int prime) {
            if (!isClass(k) || prime < 2 || prime > 97 || !isPrime(prime)) {
                return -1;
            }
            BigInteger p = BigInteger.valueOf(prime);
            BigInteger before = BigInteger.ZERO;
            BigInteger now = classes.get(k).fraction.y.mod(p);
            for (int i = 1; i <= 200; i++) {
                if (now.signum() == 0) {
                    return i;
                }
                BigInteger after = TWO.multiply(classes.get(k).fraction.x).multiply(now).subtract(before).mod(p);
                before = now;
                now = after;
            }
            return -1;
        }

        public int leaves(int k, int steps) {
            if (!isStep(k, steps)) {
                return -1000000;
            }
            Continued fraction = classes.get(k).fraction;
            BigInteger square = BigInteger.valueOf(fraction.square);
            return fraction.p.get(steps).pow(2).subtract(square.multiply(fraction.r.get(steps).pow(2))).intValueExact();
        }

        public int nearing(int k, int steps, int what, int m) {
            if (!isStep(k, steps) || what < 0 || what > 1 || m < 2 || m > 10000) {
                return -1;
            }
            Continued fraction = classes.get(k).fraction;
            return (what == 0 ? fraction.p : fraction.r).get(steps).mod(BigInteger.valueOf(m)).intValue();
        }

        public int middle(int k) {
            if (!isClass(k) || classes.get(k).fraction.isNegative()) {
                return -1;
            }
            return classes.get(k).fraction.d.get(classes.get(k).fraction.round / 2);
        }

        public int least(int k, int n) {
            if (!isClass(k) || n < -1000 || n > 1000) {
                return -1;
            }
            for (long y = 1; y <= 3000; y++) {
                long value = classes.get(k).fraction.square * y * y + n;
                long root = value < 0 ? 0 : (long) Math.sqrt((double) value);
                for (long near = Math.max(0, root - 1); near <= root + 1; near++) {
                    if (near * near == value) {
                        return (int) y;
                    }
                }
            }
            return -1;
        }

        public int apart(int d, int upTo) {
            return d >= 1 && d <= 1000 && isUpTo(upTo) ? lesserOnes(d, upTo).size() : -1;
        }

        /** By c: how many sums there are, and how many of them are above their radical. */
        private int[][] allSums() {
            int[][] all = new int[2][3001];
            Set<Integer> set = new HashSet<>(smooths);
            for (int c = 1; c <= 3000; c++) {
                for (int a = 1; 2 * a <= c && set.contains(c); a++) {
                    int b = c - a;
                    if (set.contains(a) && set.contains(b) && gcd(a, b) == 1) {
                        int radical = 1;
                        for (int prime : SEVEN) {
                            radical *= a % prime == 0 || b % prime == 0 || c % prime == 0 ? prime : 1;
                        }
                        all[0][c]++;
                        all[1][c] += c > radical ? 1 : 0;
                    }
                }
            }
            return all;
        }

        private static int gcd(int a, int b) {
            return b == 0 ? a : gcd(b, a % b);
        }

        public int sums(int upTo, int what) {
            if (upTo < 0 || upTo > 3000 || what < 0 || what > 1) {
                return -1;
            }
            int[][] all = SUMS.get(bits);
            if (all == null) {
                all = allSums();
                SUMS.put(bits, all);
            }
            int many = 0;
            for (int c = 0; c <= upTo; c++) {
                many += all[what][c];
            }
            return many;
        }

        private BigInteger great(int k) {
            if (k < 0 || k > 400) {
                return null;
            }
            TreeSet<BigInteger> ahead = new TreeSet<>(List.of(ONE));
            for (int i = 0; i < k && !ahead.isEmpty(); i++) {
                BigInteger least = ahead.pollFirst();
                for (int prime : primesOf(bits)) {
                    ahead.add(least.multiply(BigInteger.valueOf(prime)));
                }
            }
            return ahead.isEmpty() ? null : ahead.first();
        }

        public int greatLong(int k) {
            return great(k) == null ? -1 : length(great(k));
        }

        public int greatDigit(int k, int d) {
            return great(k) == null ? -1 : digitOf(great(k), d);
        }

        public int growth(int k) {
            List<Integer> primes = primesOf(bits);
            if (k < 0 || k > primes.size()) {
                return -1;
            }
            int set = 0;
            for (int prime : primes.subList(0, k)) {
                set |= bitOf(prime);
            }
            return pairsOf(set);
        }

        public int madeBy(int set) {
            int many = 0;
            for (int i = 0; i < pairs.size(); i++) {
                many += madeOf(i) == set ? 1 : 0;
            }
            return many;
        }

        public int share(int prime) {
            if ((bitOf(prime) & bits) == 0) {
                return -1;
            }
            int many = 0;
            for (int i = 0; i < pairs.size(); i++) {
                many += inPair(i, prime, 0) + inPair(i, prime, 1) > 0 ? 1 : 0;
            }
            return many;
        }

        public int twos() {
            return twos.size();
        }

        public int twoClasses() {
            return twoKinds.size();
        }

        public int twoClass(int k, int what) {
            if (k < 0 || k >= twoKinds.size()) {
                return -1;
            }
            Kind kind = twoKinds.get(k);
            switch (what) {
                case 0: return kind.q;
                case 1: return kind.fraction.root;
                case 2: return kind.fraction.round;
                case 3: return length(kind.fraction.x);
                case 4: return length(kind.fraction.y);
                case 5: return kind.pairs;
                default: return -1;
            }
        }

        public int two(int i, int what) {
            if (i < 0 || i >= twos.size()) {
                return -1;
            }
            Pair two = twos.get(i);
            switch (what) {
                case 0: return length(two.n);
                case 1: return two.kind;
                case 2: return two.index;
                case 3: return two.n.mod(BigInteger.valueOf(10000)).intValue();
                case 4: return smallOf(two.n);
                default: return -1;
            }
        }

        public int twoDigit(int i, int k) {
            return i < 0 || i >= twos.size() ? -1 : digitOf(twos.get(i).n, k);
        }

        public boolean twosAgree(int upTo) {
            return isUpTo(upTo) && agree(twos, lesserOnes(2, upTo), 2, upTo);
        }

        public int threes() {
            int many = 0;
            for (Pair pair : pairs) {
                many += isSmooth(pair.n.add(TWO)) ? 1 : 0;
            }
            return many;
        }

        private String tapeText() {
            StringBuilder text = new StringBuilder();
            for (int value : tape) {
                text.append((char) value);
            }
            tape.clear();
            return text.toString();
        }

        public int number() {
            String text = tapeText();
            if (!text.matches("[1-9][0-9]{0,299}")) {
                return -1;
            }
            number = new BigInteger(text);
            return text.length();
        }

        public int inNumber(int prime, int what) {
            return bitOf(prime) == 0 || what < 0 || what > 1 ? -1 : powerIn(number.add(BigInteger.valueOf(what)), prime);
        }

        private int placeIn(List<Pair> all) {
            for (int i = 0; i < all.size(); i++) {
                if (all.get(i).n.equals(number)) {
                    return i;
                }
            }
            return -1;
        }

        public int ofNumber(int what) {
            switch (what) {
                case 0: return isSmooth(number) ? 1 : 0;
                case 1: return placeIn(pairs);
                case 2: return placeIn(twos);
                case 3: return length(restOf(number, primesOf(bits)));
                case 4: return (int) pairs.stream().filter(pair -> pair.n.compareTo(number) < 0).count();
                case 5: return number.mod(BigInteger.valueOf(9973)).intValue();
                default: return -1;
            }
        }

        public int half(int k, int what, int digit) {
            if (!isClass(k) || !classes.get(k).fraction.isNegative() || what < 0 || what > 1) {
                return -1;
            }
            Continued fraction = classes.get(k).fraction;
            return digitOf((what == 0 ? fraction.p : fraction.r).get(fraction.round - 1), digit);
        }

        String proofText() {
            StringBuilder text = new StringBuilder();
            for (int k = 0; k < classes.size(); k++) {
                Kind kind = classes.get(k);
                text.append(kind.q).append(':').append(kind.fraction.x).append(',').append(kind.fraction.y);
                for (int i = 1; i <= boundOf(); i++) {
                    int witness = witness(k, i);
                    text.append(';').append(witness == 0 ? "s" : witness == -2 ? "?" : "" + witness);
                }
                text.append('.');
            }
            return text.toString();
        }

        public int proof() {
            latest = proofText();
            return latest.length();
        }

        public int octet(int k) {
            return k < 0 || k >= latest.length() ? -1 : latest.charAt(k);
        }

        public int feed(int a, int b, int c, int d, int e) {
            if (tape.size() + 20 > 2000) {
                return -1;
            }
            for (int word : new int[] {a, b, c, d, e}) {
                tape.add(word >>> 24);
                tape.add(word >>> 16 & 255);
                tape.add(word >>> 8 & 255);
                tape.add(word & 255);
            }
            return tape.size();
        }

        public int end(int n) {
            if (n < 0 || n > tape.size()) {
                return -1;
            }
            tape.subList(n, tape.size()).clear();
            return n;
        }

        public int proves() {
            String due = proofText();
            String told = tapeText();
            for (int k = 0; k < Math.min(due.length(), told.length()); k++) {
                if (due.charAt(k) != told.charAt(k)) {
                    return k;
                }
            }
            return due.length() == told.length() ? -1 : Math.min(due.length(), told.length());
        }

        public int meanLength() {
            if (pairs.isEmpty()) {
                return 0;
            }
            int all = pairs.stream().mapToInt(pair -> length(pair.n)).sum();
            return Float.floatToIntBits((float) all / (float) pairs.size());
        }

        public long thick(int n) {
            return n < 1 || n > 200000 ? 0 : Double.doubleToLongBits((double) smoothUpTo(n) / (double) n);
        }
    }
}
