/** Promises 1 to 15: a test for each sentence of 'What it is', of the terms and of the promises, none without one. */
public final class EdgesTest {
    public static void main(String[] args) {
        EdgesOfObjects.run();
        EdgesOfTerms.run();
        EdgesOfPriorities.run();
        EdgesOfPlaces.run();
        EdgesOfPlans.run();
        EdgesOfBounds.run();
        Sentences.allTold();
        Check.finish();
    }
}
