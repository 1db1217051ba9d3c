/**
 * Each sentence of the document, and each case that it names (too small, too large, empty, full, refused ..), has a test
 * of its own, which begins with its words; that no word is without a test is tested too.
 */
public final class BoundariesTest {
    public static void main(String[] args) throws Exception {
        Sentences doc = new Sentences();
        EdgesOfTerms.test(doc);
        EdgesOfPrimes.test(doc);
        EdgesOfClasses.test(doc);
        EdgesOfPairs.test(doc);
        EdgesOfSmooth.test(doc);
        EdgesOfTwos.test(doc);
        EdgesOfTape.test(doc);
        System.exit(doc.allHold() ? 0 : 1);
    }
}
