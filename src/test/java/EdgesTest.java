/** Promises 1 to 15: a test for each sentence of the terms and promises, and none of them without one. */
public final class EdgesTest {
    public static void main(String[] args) {
        EdgesOfTerms.run();
        EdgesOfPriorities.run();
        EdgesOfPlaces.run();
        EdgesOfPlans.run();
        EdgesOfBounds.run();
        Sentences.allTold();
        Check.finish();
    }
}
