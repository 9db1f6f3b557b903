/** Counts the answers that are as due and those that are not; the tests' only helper. */
final class Checks {
    static final int BEYOND = -1000000001;
    static final int NONE = -1000000002;
    static final int STATE = -1000000003;
    static final int FULL = -1000000004;
    static final int KIND = -1000000005;
    static final int PARTED = -1000000006;

    private static int passed = 0;
    private static int failed = 0;

    private Checks() {
    }

    static void due(String call, long got, long want) {
        if (got == want) {
            passed++;
        } else {
            failed++;
            System.out.println(call + " answered " + got + ", due is " + want);
        }
    }

    static void holds(String what, boolean so) {
        due(what, so ? 1 : 0, 1);
    }

    /** Feeds a text to THE TAPE, eight bytes at most at a time. */
    static int feed(OffOnTheSecond x, String bytes) {
        int answer = x.count(8);
        for (int from = 0; from < bytes.length(); from += 8) {
            int n = Math.min(8, bytes.length() - from);
            long word = 0;
            for (int i = n - 1; i >= 0; i--) {
                word = word << 8 | bytes.charAt(from + i) & 255;
            }
            answer = x.feed(word, n);
        }
        return answer;
    }

    static int text(OffOnTheSecond x, int use, String bytes) {
        feed(x, bytes);
        return x.text(use);
    }

    /** An object with these ITEMS: km, TRUE, km, TRUE, .. */
    static OffOnTheSecond with(int... kmsAndTruths) {
        OffOnTheSecond x = new OffOnTheSecond();
        for (int i = 0; i + 1 < kmsAndTruths.length; i += 2) {
            x.item(kmsAndTruths[i], kmsAndTruths[i + 1]);
        }
        return x;
    }

    static void end() {
        System.out.println(passed + " passed, " + failed + " failed");
        if (failed != 0 || passed == 0) {
            System.exit(1);
        }
    }
}
