/** Promises 9 to 13: value, choices, choice, gain, branch. */
public final class StatesTest {
    // State 0 leads to (1, 0), to (0, -1) and back; state 3 has no choices; (2, -2) is a goal.
    private static final String WEB = "gain early per two = 4; var x = 0 in 0 to 2; "
            + "var y = 0 in -2 to 0; gain both = 10 * x + y; "
            + "do none when 0 go 100 set x = 99; "
            + "do one when x = 0 and y = 0 go 20 set x = 1 also go 30 set y = -1 also go 50; "
            + "goal x = 2 and y = -2; gain of per one = x - 7; "
            + "do two when y = 0 go 100 set x = min(x + 1, 2), y = min(x - 1, 0); "
            + "do three when x = 1 go 60 set x = 2, y = y - x also go 40 set x = x + 1, y = -2;";

    public static void main(String[] args) {
        MarkovBench bench = Tape.compiled(WEB);
        promise9Value(bench);
        promise10Choices(bench);
        promise11Choice(bench);
        promise12Gain(bench);
        promise13Branch(bench);
        reckonedAhead();
        Check.end();
    }

    private static void promise9Value(MarkovBench bench) {
        // In the order in which they are found: one leads to 1 and 2, two in state 0 to (1, -1),
        // two in state 1 to (2, 0), three in state 1 to (2, -1) and (2, -2).
        int[][] want = {{0, 0}, {1, 0}, {0, -1}, {1, -1}, {2, 0}, {2, -1}, {2, -2}};
        Check.same("states", want.length, bench.count(3));
        for (int state = 0; state < want.length; state++) {
            for (int variable = 0; variable < 2; variable++) {
                Check.same("value " + state + ", " + variable, want[state][variable],
                        bench.value(state, variable));
            }
        }
        Check.noIndex(bench, "state 7", () -> bench.value(7, 0));
        Check.noIndex(bench, "state -1", () -> bench.value(-1, 0));
        Check.noIndex(bench, "variable 2", () -> bench.value(0, 2));
        Check.noIndex(bench, "variable -1", () -> bench.value(0, -1));
        Check.noIndex(bench, "the greatest", () -> bench.value(Integer.MAX_VALUE, 0));
    }

    private static void promise10Choices(MarkovBench bench) {
        Check.same("choices of 0", 2, bench.choices(0));
        Check.same("choices of 1", 2, bench.choices(1));
        Check.same("choices of 2", 0, bench.choices(2));
        Check.same("choices of 3", 1, bench.choices(3));
        Check.same("choices of 4", 1, bench.choices(4));
        Check.same("choices of 5", 0, bench.choices(5));
        Check.same("choices of a goal", -1, bench.choices(6));
        Check.noIndex(bench, "choices of 7", () -> bench.choices(7));
        Check.noIndex(bench, "choices of -1", () -> bench.choices(-1));
        MarkovBench none = Tape.compiled("var x = 0 in 0 to 1; do a when 1 go 100;");
        Check.same("without a goal", 1, none.choices(0));
        MarkovBench all = Tape.compiled("var x = 0 in 0 to 1; do a when 1 go 100; goal -5;");
        Check.same("any number other than 0 is true", -1, all.choices(0));
    }

    private static void promise11Choice(MarkovBench bench) {
        int[][] want = {{0, 0, 1, 3}, {0, 1, 2, 1}, {1, 0, 2, 1}, {1, 1, 3, 2}, {3, 0, 3, 2},
            {4, 0, 2, 1}};
        for (int[] row : want) {
            String where = "choice " + row[0] + ", " + row[1];
            Check.same(where + ": command", row[2], bench.choice(row[0], row[1], 0));
            Check.same(where + ": branches", row[3], bench.choice(row[0], row[1], 1));
        }
        Check.noIndex(bench, "state 7", () -> bench.choice(7, 0, 0));
        Check.noIndex(bench, "state -1", () -> bench.choice(-1, 0, 0));
        Check.noIndex(bench, "choice 2", () -> bench.choice(0, 2, 0));
        Check.noIndex(bench, "choice -1", () -> bench.choice(0, -1, 0));
        Check.noIndex(bench, "a choice of none", () -> bench.choice(2, 0, 0));
        Check.noIndex(bench, "a choice of a goal", () -> bench.choice(6, 0, 0));
        Check.noIndex(bench, "what 2", () -> bench.choice(0, 0, 2));
        Check.noIndex(bench, "what -1", () -> bench.choice(0, 0, -1));
    }

    private static void promise12Gain(MarkovBench bench) {
        // State, choice, then the gains: early per two, both, of per one.
        int[][] want = {{0, 0, 0, 0, -7}, {0, 1, 4, 0, 0}, {1, 0, 4, 10, 0}, {1, 1, 0, 10, 0},
            {3, 0, 0, 9, 0}, {4, 0, 4, 20, 0}};
        for (int[] row : want) {
            for (int gain = 0; gain < 3; gain++) {
                Check.same("gain " + row[0] + ", " + row[1] + ", " + gain, row[2 + gain],
                        bench.gain(row[0], row[1], gain));
            }
        }
        Check.noIndex(bench, "state 7", () -> bench.gain(7, 0, 0));
        Check.noIndex(bench, "choice 2", () -> bench.gain(0, 2, 0));
        Check.noIndex(bench, "a choice of a goal", () -> bench.gain(6, 0, 0));
        Check.noIndex(bench, "choice -1", () -> bench.gain(0, -1, 0));
        Check.noIndex(bench, "gain 3", () -> bench.gain(0, 0, 3));
        Check.noIndex(bench, "gain -1", () -> bench.gain(0, 0, -1));
        MarkovBench wide = Tape.compiled("var x = 0 in 0 to 1; do a when 1 go 100; "
                + "gain g = 999999 * 999999 * 9;");
        Check.same("a gain of 64 bits", 999999L * 999999L * 9, wide.gain(0, 0, 0));
        Check.noIndex(wide, "a gain that is not told", () -> wide.gain(0, 0, 1));
    }

    private static void promise13Branch(MarkovBench bench) {
        // State, choice, branch, chance, target.
        int[][] want = {{0, 0, 0, 20, 1}, {0, 0, 1, 30, 2}, {0, 0, 2, 50, 0}, {0, 1, 0, 100, 3},
            {1, 0, 0, 100, 4}, {1, 1, 0, 60, 5}, {1, 1, 1, 40, 6}, {3, 0, 0, 60, 6},
            {3, 0, 1, 40, 6}};
        for (int[] row : want) {
            String where = "branch " + row[0] + ", " + row[1] + ", " + row[2];
            Check.same(where + ": chance", row[3], bench.branch(row[0], row[1], row[2], true));
            Check.same(where + ": target", row[4], bench.branch(row[0], row[1], row[2], false));
        }
        Check.noIndex(bench, "state 7", () -> bench.branch(7, 0, 0, true));
        Check.noIndex(bench, "state -1", () -> bench.branch(-1, 0, 0, false));
        Check.noIndex(bench, "choice 2", () -> bench.branch(0, 2, 0, true));
        Check.noIndex(bench, "a choice of a goal", () -> bench.branch(6, 0, 0, true));
        Check.noIndex(bench, "branch 3", () -> bench.branch(0, 0, 3, true));
        Check.noIndex(bench, "branch 1 of one", () -> bench.branch(0, 1, 1, false));
        Check.noIndex(bench, "branch -1", () -> bench.branch(0, 0, -1, true));
    }

    private static void reckonedAhead() {
        MarkovBench bench = Tape.compiled("var a = 1 in 0 to 9; var b = 2 in 0 to 9; "
                + "do swap when 1 go 100 set a = b, b = a;");
        Check.same("swap makes two states", 2, bench.count(3));
        Check.same("a", 2, bench.value(1, 0));
        Check.same("b", 1, bench.value(1, 1));
        Check.same("and back", 0, bench.branch(1, 0, 0, false));
    }
}
