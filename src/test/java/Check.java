/** Compares answers with those that are due, prints each wrong one, and ends the test. */
final class Check {
    private static int made = 0;
    private static int wrong = 0;
    private static String sentence = "";

    private Check() {
    }

    /** Which words of the document the answers that follow are held against. */
    static void sentence(String words) {
        sentence = words;
    }

    static void due(String call, long got, long want) {
        made++;
        if (got != want) {
            wrong++;
            System.out.println("'" + sentence + "': " + call + " answered " + got + ", due is " + want);
        }
    }

    static void due(String call, boolean got, boolean want) {
        due(call, got ? 1 : 0, want ? 1 : 0);
    }

    static void finish() {
        System.out.println(made - wrong + " passed, " + wrong + " failed");
        if (wrong != 0 || made == 0) {
            System.exit(1);
        }
    }

    /** The address or prefix of a text: its first letter in the lowest byte. */
    static long text(String letters) {
        long value = 0;
        for (int i = letters.length() - 1; i >= 0; i--) {
            value = value << 8 | letters.charAt(i);
        }
        return value;
    }
}
