/** Promises 1 to 15: runs of calls drawn by fixed seeds, each answer compared with that of NaivePlans. */
public final class RandomRunsTest {
    public static void main(String[] args) {
        for (int run = 0; run < 600; run++) {
            new DrawnRun(run).go();
        }
        Check.finish();
    }
}
