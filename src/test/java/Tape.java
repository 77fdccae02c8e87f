/** Puts texts on the tape of a bench. */
final class Tape {
    private Tape() { }

    /** The tape must be empty; then it holds the text. */
    static void put(MarkovBench bench, String text) {
        for (int[] five : fives(text)) {
            bench.feed(five[0], five[1], five[2], five[3], five[4]);
        }
        bench.trim(text.length());
    }

    static int[][] fives(String text) {
        int[][] rows = new int[(text.length() + 19) / 20][5];
        for (int i = 0; i < rows.length * 20; i++) {
            int c = i < text.length() ? text.charAt(i) : ' ';
            rows[i / 20][i % 20 / 4] |= c << 24 - i % 4 * 8;
        }
        return rows;
    }

    static int compile(MarkovBench bench, String text) {
        put(bench, text);
        return bench.compile();
    }

    static MarkovBench compiled(String text) {
        MarkovBench bench = new MarkovBench();
        Check.same("compile of " + text, 0, compile(bench, text));
        return bench;
    }

    /** What a text yields in a state; null if it has an error. */
    static Long reckon(MarkovBench bench, String text, int state) {
        put(bench, text);
        return bench.test(state) == 0 ? bench.result() : null;
    }

    /** All that can be asked without an argument, as one text. */
    static String picture(MarkovBench bench) {
        StringBuilder all = new StringBuilder("digest " + bench.digest());
        all.append(", error at ").append(bench.errorAt());
        all.append(", result ").append(bench.result()).append(", played");
        for (int what = 0; what < 4; what++) {
            all.append(' ').append(bench.played(what));
        }
        return all.toString();
    }
}
