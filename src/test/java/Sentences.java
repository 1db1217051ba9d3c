import java.nio.file.Files;
import java.nio.file.Path;
import java.util.function.IntUnaryOperator;
import java.util.stream.IntStream;

/**
 * The document's sentences and the tests that quote them. A test begins by the words of the document that it holds the
 * class to, and has a new object of its own; in the end every word of every promise and of the Terms must have been
 * quoted by a test, and every quote must stand in its promise, once.
 */
final class Sentences {
    static final int NONE = -1;
    static final int LEAST = Integer.MIN_VALUE;
    static final int MOST = Integer.MAX_VALUE;
    /** What stands ahead of Promise 1, the Terms among it, counts as promise 0. */
    static final int TERMS = 0;
    private static final int PROMISES = 63;
    private static final Path DOCUMENT = Path.of("../shared/DOC.md");

    private final String[] sections = new String[PROMISES + 1];
    private final boolean[][] quoted = new boolean[PROMISES + 1][];
    private int promise;
    private String quote = "";
    private int tests;
    private int checked;
    private int wrong;

    Sentences() throws Exception {
        String document = Files.readString(DOCUMENT).replaceAll("```(text)?|==== I+\\.", " ");
        int end = document.indexOf("## Not promised");
        for (int i = PROMISES; i >= 0; i--) {
            int begin = i == TERMS ? 0 : document.indexOf("## Promise " + i + ":");
            String section = document.substring(begin, end);
            int text = i == TERMS ? 0 : section.indexOf("`: ") + 3;
            sections[i] = section.substring(text).replaceAll("\\s+", " ");
            quoted[i] = new boolean[sections[i].length()];
            end = begin;
        }
    }

    /** A test of its own: what the document says there, and a new object. */
    SmoothNeighbours test(int ofPromise, String words) {
        promise = ofPromise;
        quote = words;
        tests++;
        mark();
        return new SmoothNeighbours();
    }

    /** The same, with an object that has the primes of these bits. */
    SmoothNeighbours test(int ofPromise, String words, int bits) {
        SmoothNeighbours x = test(ofPromise, words);
        x.choose(bits);
        return x;
    }

    private void mark() {
        int from = sections[promise].indexOf(quote);
        if (from < 0 || sections[promise].indexOf(quote, from + 1) >= 0) {
            fails("the document does not say so, or not once");
            return;
        }
        for (int i = from; i < from + quote.length(); i++) {
            quoted[promise][i] = true;
        }
    }

    void due(String call, long got, long want) {
        checked++;
        if (got != want) {
            fails(call + " answered " + got + ", due is " + want);
        }
    }

    void due(String call, boolean got, boolean want) {
        due(call, got ? 1 : 0, want ? 1 : 0);
    }

    private void fails(String how) {
        wrong++;
        System.out.println("promise " + promise + ", \"" + quote + "\": " + how);
    }

    /** All digits of a number, the lowest is digit 0, and none ahead of the lowest or behind the highest. */
    void digits(String call, String number, IntUnaryOperator digit) {
        for (int k = 0; k < number.length(); k++) {
            int want = number.charAt(number.length() - 1 - k) - '0';
            due(call + ", digit " + k + " of " + number, digit.applyAsInt(k), want);
        }
        for (int k : new int[] {number.length(), number.length() + 1, -1, LEAST, MOST}) {
            due(call + ", digit " + k + " of " + number, digit.applyAsInt(k), NONE);
        }
    }

    /** The same answer to each of some arguments. */
    void dueForAll(String call, int[] arguments, IntUnaryOperator answer, int want) {
        for (int argument : arguments) {
            due(call + " of " + argument, answer.applyAsInt(argument), want);
        }
    }

    /** The answers to 0, 1, 2 .. */
    void row(String call, IntUnaryOperator answer, int... wanted) {
        for (int k = 0; k < wanted.length; k++) {
            due(call + " of " + k, answer.applyAsInt(k), wanted[k]);
        }
    }

    /** Whether the tape has just so many bytes; they stay. */
    void tapeHas(SmoothNeighbours x, int many) {
        due("a byte behind the tape", x.end(many + 1), NONE);
        due("the tape's bytes", x.end(many), many);
    }

    /** A further object, for a test that needs more than one. */
    static SmoothNeighbours of(int bits) {
        SmoothNeighbours x = new SmoothNeighbours();
        x.choose(bits);
        return x;
    }

    /** All sets of at most five of the seven primes, as bits. */
    static int[] allSets() {
        return IntStream.range(0, 128).filter(bits -> Integer.bitCount(bits) <= 5).toArray();
    }

    /** What an object tells of itself, its tape aside: the same text, if a call has left nothing behind. */
    static String state(SmoothNeighbours x) {
        StringBuilder text = new StringBuilder();
        for (int what = 0; what <= 10; what++) {
            text.append(x.is(what)).append(' ');
        }
        for (int pair = x.is(4) - 1; pair >= 0; pair--) {
            text.append(x.small(pair)).append(' ').append(x.measure(pair, 2)).append(' ');
        }
        for (int k = 0; k < 4; k++) {
            text.append(x.of(k, 8)).append(' ').append(x.witness(k, 3)).append(' ').append(x.twoClass(k, 0)).append(' ');
            text.append(x.two(k, 1)).append(' ').append(x.greatDigit(8 * k, 0)).append(' ').append(x.smoothAt(8 * k)).append(' ');
        }
        text.append(x.twos()).append(' ').append(x.twoClasses()).append(' ').append(x.smoothUpTo(200000)).append(' ');
        text.append(x.sums(3000, 0)).append(' ').append(x.sums(3000, 1)).append(' ').append(x.gap(200000, 1)).append(' ');
        text.append(x.greatLong(400)).append(' ').append(x.greatDigit(400, 0)).append(' ').append(x.smooth(34)).append(' ');
        return text.append(x.ofNumber(5)).append(' ').append(x.ofNumber(0)).append(' ').append(x.octet(0)).toString();
    }

    /** Puts a text on the tape, whatever was there: the last twenty bytes are filled up and cut off again. */
    static void tell(SmoothNeighbours x, String text) {
        x.end(0);
        for (int from = 0; from < text.length(); from += 20) {
            int[] words = new int[5];
            for (int k = 0; k < 20; k++) {
                words[k / 4] = words[k / 4] << 8 | (from + k < text.length() ? text.charAt(from + k) & 255 : 0);
            }
            x.feed(words[0], words[1], words[2], words[3], words[4]);
        }
        x.end(text.length());
    }

    /** The proof written latest, if it is no longer than a few hundred bytes: an object takes 512 calls. */
    static String written(SmoothNeighbours x) {
        StringBuilder text = new StringBuilder();
        int next = x.octet(0);
        while (next != NONE && text.length() < 400) {
            text.append((char) next);
            next = x.octet(text.length());
        }
        return text.toString();
    }

    /** Whether all that was asked holds and each of the document's words has its test. */
    boolean allHold() {
        for (int i = 0; i <= PROMISES; i++) {
            promise = i;
            quote = unquoted(i);
            if (!quote.isEmpty()) {
                fails("no test quotes this");
            }
        }
        System.out.println(tests + " tests, " + checked + " answers checked, " + wrong + " are not as due");
        return wrong == 0;
    }

    /** The first words of a section that no test quotes; ahead of Promise 1 the Terms count alone. */
    private String unquoted(int section) {
        String text = sections[section];
        for (int i = section == TERMS ? text.indexOf("THE PRIMES: some of") : 0; i < text.length(); i++) {
            if (!quoted[section][i] && Character.isLetterOrDigit(text.charAt(i))) {
                return text.substring(i, Math.min(i + 60, text.length()));
            }
        }
        return "";
    }
}
