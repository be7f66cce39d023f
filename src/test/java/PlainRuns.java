/** Programs and blocks from the tape to a value. */
public final class PlainRuns {
    public static void main(String[] args) {
        Check.programRun("1 + 2 * 3", 7, 0, 0, 0, 0);
        Check.end();
    }
}
