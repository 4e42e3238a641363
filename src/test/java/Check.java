/** Compares answers with those that are due; the form is that of the tests under ../shared/tests. */
final class Check {
    private static int wrong = 0;
    private static int compared = 0;

    private Check() {
    }

    static void due(String call, long got, long want) {
        compared++;
        if (got != want) {
            wrong++;
            System.out.println(call + " answered " + got + ", due is " + want);
        }
    }

    static void due(String call, boolean got, boolean want) {
        due(call, got ? 1L : 0L, want ? 1L : 0L);
    }

    /** Feeds a text, four bytes a call, the last call filled up with zeros. */
    static int feed(NightMove move, String text) {
        int answer = move.count(8);
        for (int from = 0; from < text.length(); from += 4) {
            int four = 0;
            for (int i = from; i < from + 4; i++) {
                four = four << 8 | (i < text.length() ? text.charAt(i) & 255 : 0);
            }
            answer = move.feed(four);
        }
        return answer;
    }

    static void finish() {
        System.out.println(compared + " answers compared, " + wrong + " not as due");
        if (wrong != 0 || compared == 0) {
            System.exit(1);
        }
    }
}
