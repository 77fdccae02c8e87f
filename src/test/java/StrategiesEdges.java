import java.math.BigInteger;

/** The sentences on strategies, and those of promises 14 to 24. */
final class StrategiesEdges {
    private static final String X = "var x = 0 in 0 to 9; ";
    private static final String A = "do a when 1 go 100; ";
    private static final int[] FAR = {-1, Integer.MIN_VALUE, Integer.MAX_VALUE, 12, 100};
    // Both branches lead to the same state, so that n steps bring n times what one brings.
    private static final String LOOP = "var x = 0 in 0 to 1; do a when 1 go 37 also go 63; ";
    // What comes later has to be cut; minus is below 0.
    private static final String CUT = "var x = 0 in 0 to 1; gain plus = 1; gain minus = -1; "
            + "do s when x = 0 go 33 also go 67 set x = 1; goal x = 1;";
    private static final String BIG = "999999 * 999999 * 999999";
    private static final long BIG_NUMBER = 999999L * 999999L * 999999L;
    // 10000 times this is the least number of 64 bits.
    private static final String TO_LEAST = "262144 * 262144 * 262144 * 32";
    // Each way ends at once; b, c and d bring one gain each, a brings nothing.
    private static final String WAYS = "var x = 0 in 0 to 1; gain g per b = 1; gain h per c = 1; "
            + "gain i per d = 1; do a when x = 0 go 100 set x = 1; do b when x = 0 go 100 set x = 1; "
            + "do c when x = 0 go 100 set x = 1; do d when x = 0 go 100 set x = 1;";

    private StrategiesEdges() { }

    static void run() {
        wraps();
        made();
        worths();
        firstOfGreatest();
        bringing();
        chances();
        better();
        kept();
        mixes();
        weigh();
        solve();
        takes();
        worth();
        brings();
        chance();
        isWorthHaving();
        sweep();
        sweepRefused();
        mix();
        bestMix();
        drop();
    }

    private static int solved(MarkovBench bench, int steps, int... weights) {
        for (int gain = 0; gain < weights.length; gain++) {
            bench.weigh(gain, weights[gain]);
        }
        return bench.solve(steps);
    }

    private static BigInteger number(long x) {
        return BigInteger.valueOf(x);
    }

    /** What each of 1 to 30 steps brings in LOOP, where one brings once; wraps around in 64 bits. */
    private static long[] looped(long once) {
        long[] brought = new long[31];
        for (int n = 1; n <= 30; n++) {
            long later = number(brought[n - 1]).multiply(number(100)).longValue();
            brought[n] = number(later).divide(number(100)).add(number(once)).longValue();
        }
        return brought;
    }

    private static long times(long a, long b) {
        return number(a).multiply(number(b)).longValue();
    }

    private static void wraps() {
        Sentences.of("Terms", "All is reckoned in 64-bit integers, which wrap around; what is said to be "
                + "divided is cut towards 0.");
        String least = "512 * 262144 * 262144 * 262144";
        MarkovBench bench = Tape.compiled(LOOP + "gain g = " + BIG + "; gain h = -(" + BIG + "); gain i = "
                + "7777 * 7777 * 7777 * 7777;");
        String[] sums = {least, least + " - 1", "-(" + least + ")", "abs(" + least + ")",
            "(" + least + ") / -1", "(" + least + ") * -1", "(" + least + ") * 2",
            "262144 * 262144 * 262144 * 262144 * 262144", "-7 / 2", "7 / -2", "-7 / -2", "-1 / 2",
            "-1 / 1000", "-999 / 1000", "(" + least + ") / 1000"};
        long[] want = {Long.MIN_VALUE, Long.MAX_VALUE, Long.MIN_VALUE, Long.MIN_VALUE, Long.MIN_VALUE,
            Long.MIN_VALUE, 0, 0, -3, -3, 3, 0, 0, 0, -9223372036854775L};
        for (int i = 0; i < sums.length; i++) {
            Check.same(sums[i], want[i], Tape.reckon(bench, sums[i], 0));
        }
        long[] gains = {BIG_NUMBER, -BIG_NUMBER, 7777L * 7777L * 7777L * 7777L};
        for (int gain = 0; gain < 3; gain++) {
            for (int weight : new int[] {-9, -1, 1, 9}) {
                int[] weights = new int[3];
                weights[gain] = weight;
                int made = solved(bench, 30, weights);
                long[] worth = looped(times(10000, times(weight, gains[gain])));
                for (int n = 0; n <= 30; n++) {
                    Check.same("worth with " + n, worth[n], bench.worth(made, 0, n));
                }
                for (int g = 0; g < 3; g++) {
                    Check.same("brings", looped(times(10000, gains[g]))[30], bench.brings(made, g));
                }
                bench.drop(made);
            }
        }
        MarkovBench cut = Tape.compiled(CUT);
        solved(cut, 30, 1, 0);
        solved(cut, 30, 0, 1);
        long brought = 0;
        for (int n = 1; n <= 30; n++) {
            brought = 10000 + brought * 33 / 100;
            Check.same("cut with " + n, brought, cut.worth(0, 0, n));
            Check.same("cut towards 0 with " + n, -brought, cut.worth(1, 0, n));
        }
        Check.same("brings", brought, cut.brings(0, 0));
        Check.same("brings below 0", -brought, cut.brings(0, 1));
    }

    private static void made() {
        Sentences.of("Terms", "A strategy is made for a weight of each gain, -9 to 9, and a number of "
                + "steps, 1 to 30.");
        MarkovBench bench = Tape.compiled(LOOP + "gain g = 1; gain h = 100; gain i = 10000;");
        for (int weight = -9; weight <= 9; weight++) {
            int one = solved(bench, 1, weight, 0, 0);
            int all = solved(bench, 2, weight, -weight, weight);
            Check.same("weight " + weight, 10000L * weight, bench.worth(one, 0, 1));
            Check.same("weights " + weight, 10000L * weight * 9901, bench.worth(all, 0, 1));
            bench.drop(all);
            bench.drop(one);
        }
        for (int steps = 1; steps <= 30; steps++) {
            int one = solved(bench, steps, 1, 0, 0);
            Check.same(steps + " steps", 10000L * steps, bench.worth(one, 0, steps));
            Check.same(steps + " steps bring", 1000000L * steps, bench.brings(one, 1));
            bench.drop(one);
        }
    }

    private static void worths() {
        Sentences.of("Terms", "For a state s and a number n of steps that are left, let worth(s, 0) = 0, "
                + "and worth(s, n) = 0 for a state without choices; otherwise worth(s, n) is the greatest "
                + "one, over its choices, of 10000 * (the sum of the weights times the gains of this "
                + "choice in s) + (the sum, over its branches, of the chance times worth(t, n - 1), t "
                + "being the state to which the branch leads) / 100.");
        // 0 leads to 1, 2 and 3; 1 is stuck, 2 is a goal where a command is enabled, 3 stays.
        MarkovBench bench = Tape.compiled("var x = 0 in 0 to 3; gain g = x + 1; do a when x = 0 go 1 set x "
                + "= 1 also go 2 set x = 2 also go 97 set x = 3; do b when x > 1 go 100; goal x = 2;");
        solved(bench, 30, 9);
        for (int n = 0; n <= 30; n++) {
            Check.same("stuck with " + n, 0, bench.worth(0, 1, n));
            Check.same("in a goal with " + n, 0, bench.worth(0, 2, n));
            Check.same("in 3 with " + n, 360000L * n, bench.worth(0, 3, n));
            long want = n == 0 ? 0 : 90000 + 97 * 360000L * (n - 1) / 100;
            Check.same("in 0 with " + n, want, bench.worth(0, 0, n));
        }
        // The greatest one, above and below 0, by one.
        MarkovBench two = Tape.compiled("var x = 0 in 0 to 1; gain g per a = -8; gain h per b = -7; do a "
                + "when x = 0 go 100 set x = 1; do b when x = 0 go 100 set x = 1;");
        solved(two, 1, 1, 1);
        Check.same("the greatest one below 0", -70000, two.worth(0, 0, 1));
        Check.same("is that of b", 1, two.takes(0, 0, 1));
        solved(two, 1, -1, -1);
        Check.same("the greatest one", 80000, two.worth(1, 0, 1));
        Check.same("is that of a", 0, two.takes(1, 0, 1));
        // Of one branch in a hundred, the sum is divided and not each part: 3 * 33 / 100.
        MarkovBench sum = Tape.compiled("var x = 0 in 0 to 4; gain g = x; do s when x = 0 go 33 set x = 1 "
                + "also go 33 set x = 2 also go 34 set x = 3; do t when x > 0 and x < 4 go 33 also go 67 "
                + "set x = 4;");
        solved(sum, 5, 1);
        long once = 0;
        long[] by = new long[4];
        for (int n = 1; n <= 5; n++) {
            once = (33 * by[1] + 33 * by[2] + 34 * by[3]) / 100;
            for (int x = 1; x < 4; x++) {
                by[x] = 10000L * x + 33 * by[x] / 100;
                Check.same("in " + x + " with " + n, by[x], sum.worth(0, x, n));
            }
            Check.same("the sum with " + n, once, sum.worth(0, 0, n));
        }
    }

    private static void firstOfGreatest() {
        Sentences.of("Terms", "The strategy takes the first choice with which it is the greatest one.");
        MarkovBench bench = Tape.compiled(WAYS);
        int[][] rows = {{0, 0, 0, 0}, {1, 0, 0, 1}, {0, 1, 0, 2}, {0, 0, 1, 3}, {1, 1, 0, 1}, {0, 1, 1, 2},
            {1, 1, 1, 1}, {-1, -1, -1, 0}, {-1, 0, 0, 0}, {1, 2, 1, 2}, {1, 2, 2, 2}, {-1, -9, 1, 3}};
        for (int[] row : rows) {
            int made = solved(bench, 2, row[0], row[1], row[2]);
            Check.same("with 1", row[3], bench.takes(made, 0, 1));
            Check.same("with 2", row[3], bench.takes(made, 0, 2));
            bench.drop(made);
        }
        String to = "var x = 0 in 0 to 1; do a when x = 0 go 100 set x = 1; do b when x = 0 go 100 set x = "
                + "1; do c when x = 0 go 100 set x = 1; ";
        MarkovBench least = Tape.compiled(to + "gain g = " + TO_LEAST + ";");
        solved(least, 1, 1);
        Check.same("the least number", Long.MIN_VALUE, least.worth(0, 0, 1));
        Check.same("the first of all the least", 0, least.takes(0, 0, 1));
        MarkovBench more = Tape.compiled(to + "gain g = " + TO_LEAST + "; gain h per c = 1;");
        solved(more, 1, 1, 1);
        Check.same("more than the least", Long.MIN_VALUE + 10000, more.worth(0, 0, 1));
        Check.same("by the last one", 2, more.takes(0, 0, 1));
        MarkovBench only = Tape.compiled(LOOP + "gain g = " + TO_LEAST + ";");
        solved(only, 1, 1);
        Check.same("the only one is the least", 0, only.takes(0, 0, 1));
        MarkovBench wide = TapeEdges.widest();
        solved(wide, 30, 0, 0, 9);
        Check.same("the last of 16 in the first state", 15, wide.takes(0, 0, 30));
        Check.same("the last of 16 in the last state", 15, wide.takes(0, 99, 1));
        Check.same("with its worth", 90000, wide.worth(0, 99, 1));
        // Greatest by what comes later: by 1 of the 10000ths that the division leaves.
        MarkovBench later = Tape.compiled("var x = 0 in 0 to 2; gain g = x; do a when x = 0 go 1 set x = 1 "
                + "also go 99 set x = 2; do b when x = 0 go 100 set x = 2; do c when x = 0 go 100 set x = 2; "
                + "do d when x > 0 go 100;");
        solved(later, 3, 1);
        Check.same("all the same with 1", 0, later.takes(0, 0, 1));
        Check.same("the first of both with 2", 1, later.takes(0, 0, 2));
        Check.same("which is worth", 20000, later.worth(0, 0, 2));
    }

    private static void bringing() {
        Sentences.of("Terms", "What a strategy brings of a gain: the same, with the choices that the "
                + "strategy takes, and with 10000 times this gain in the place of the weighted sum.");
        MarkovBench bench = Tape.compiled(Benches.TWO);
        int forA = solved(bench, 2, 9, 0);
        int notB = solved(bench, 2, 0, -9);
        int both = solved(bench, 2, -1, 9);
        int once = solved(bench, 1, -9, 9);
        long[][] want = {{60000, 0}, {60000, 0}, {39000, 50000}, {30000, 50000}};
        int[] strategies = {forA, notB, both, once};
        for (int i = 0; i < want.length; i++) {
            Check.same("a of " + i, want[i][0], bench.brings(strategies[i], 0));
            Check.same("b of " + i, want[i][1], bench.brings(strategies[i], 1));
        }
        // Choices that change with the steps that are left: with 1 and 2 left it takes what pays now.
        MarkovBench late = Tape.compiled("var x = 0 in 0 to 3; gain g = 10 * (x = 2); gain now per quick = "
                + "5; do quick when x = 0 go 100 set x = 3; do slow when x < 3 go 100 set x = x + 1;");
        long[][] brought = {{0, 50000}, {0, 50000}, {100000, 0}, {100000, 0}};
        for (int steps = 1; steps <= 4; steps++) {
            int made = solved(late, steps, 1, 1);
            Check.same("later with " + steps, brought[steps - 1][0], late.brings(made, 0));
            Check.same("now with " + steps, brought[steps - 1][1], late.brings(made, 1));
        }
    }

    private static void chances() {
        Sentences.of("Terms", "Its chance of a goal, in millionths: 1000000 in a goal, whatever is left; 0 "
                + "in other states with 0 steps left or without choices; otherwise (the sum of the chance "
                + "of a branch times the chance of a goal in t with n - 1 left) / 100 for the choice that "
                + "it takes.");
        MarkovBench at = Tape.compiled(X + "do a when 1 go 100; goal 1;");
        Check.same("in a goal with 1", 1000000, at.chance(at.solve(1)));
        Check.same("in a goal with 30", 1000000, at.chance(at.solve(30)));
        MarkovBench stuck = Tape.compiled(X + "do a when 0 go 100; goal x;");
        Check.same("without choices", 0, stuck.chance(stuck.solve(30)));
        MarkovBench none = Tape.compiled(X + A);
        Check.same("without a goal", 0, none.chance(none.solve(30)));
        // A line of states: the goal is just so many steps away.
        MarkovBench line = Tape.compiled("var x = 0 in 0 to 30; do a when x < 30 go 100 set x = x + 1; goal "
                + "x = 30;");
        Check.same("one step too few", 0, line.chance(line.solve(29)));
        Check.same("just as many", 1000000, line.chance(line.solve(30)));
        MarkovBench cut = Tape.compiled(CUT);
        long chance = 0;
        for (int steps = 1; steps <= 30; steps++) {
            chance = (33 * chance + 67 * 1000000) / 100;
            int made = cut.solve(steps);
            Check.same("cut with " + steps, chance, cut.chance(made));
            cut.drop(made);
        }
        MarkovBench one = Tape.compiled("var x = 0 in 0 to 1; do a when x = 0 go 99 also go 1 set x = 1; "
                + "goal x;");
        Check.same("one hundredth", 10000, one.chance(one.solve(1)));
        // For the choice that it takes, though another one leads to the goal.
        MarkovBench two = Tape.compiled(Benches.TWO);
        Check.same("fast does not reach it", 0, two.chance(solved(two, 1, 1, 0)));
        Check.same("slow may reach it", 700000, two.chance(solved(two, 1, 0, 1)));
    }

    private static void better() {
        Sentences.of("Terms", "A strategy is better than another one if it brings at least as much of each "
                + "gain in state 0 with all its steps, and more of at least one.");
        for (int code = 0; code < 27; code++) {
            int[] gains = {code % 3 - 1, code / 3 % 3 - 1, code / 9 - 1};
            StringBuilder text = new StringBuilder(LOOP);
            boolean isMore = false;
            boolean isLess = false;
            for (int gain = 0; gain < 3; gain++) {
                text.append("gain g").append(gain).append(" = ").append(gains[gain]).append("; ");
                isMore |= gains[gain] > 0;
                isLess |= gains[gain] < 0;
            }
            MarkovBench bench = Tape.compiled(text.toString());
            bench.solve(1);
            bench.solve(2);
            Check.same(text + ": two steps are not better", !(isMore && !isLess), bench.isWorthHaving(0));
            Check.same(text + ": one step is not better", !(isLess && !isMore), bench.isWorthHaving(1));
        }
        // In state 0 alone, and with all steps of each.
        MarkovBench one = Tape.compiled(LOOP + "gain g = 1;");
        one.solve(30);
        one.solve(29);
        Check.same("30 steps", true, one.isWorthHaving(0));
        Check.same("29 steps", false, one.isWorthHaving(1));
        MarkovBench none = Tape.compiled(LOOP);
        none.solve(1);
        none.solve(30);
        Check.same("without gains no one is", true, none.isWorthHaving(0));
        Check.same("without gains no one is", true, none.isWorthHaving(1));
    }

    private static void kept() {
        Sentences.of("Terms", "Strategies are kept, at most 12, numbered from 0.");
        MarkovBench bench = Tape.compiled(LOOP + "gain g = 1;");
        bench.weigh(0, 1);
        for (int i = 0; i < 12; i++) {
            Check.same("the next one", i, bench.solve(i + 1));
            Check.same("so many are kept", i + 1, bench.count(4));
        }
        Check.fails("a 13th", IllegalStateException.class, () -> bench.solve(13));
        for (int i = 0; i < 12; i++) {
            Check.same("each is kept", 10000L * (i + 1), bench.brings(i, 0));
            Check.same("with its worth", 10000L * (i + 1), bench.worth(i, 0, i + 1));
            Check.same("and its choices", 0, bench.takes(i, 0, i + 1));
        }
    }

    private static long mixed(long a, long b, int p) {
        long sum = number(a).multiply(number(p)).add(number(b).multiply(number(100 - p))).longValue();
        return number(sum).divide(number(100)).longValue();
    }

    private static void mixes() {
        Sentences.of("Terms", "A mix of two strategies a and b by p hundredths brings (p times what a "
                + "brings, and 100 - p times what b brings) / 100.");
        MarkovBench bench = Tape.compiled(LOOP + "gain small = 1; gain big = " + BIG + "; gain minus = -1;");
        bench.solve(1);
        bench.solve(3);
        MarkovBench cut = Tape.compiled(CUT);
        cut.solve(4);
        cut.solve(9);
        for (int p = 0; p <= 100; p++) {
            for (int gain = 0; gain < 3; gain++) {
                long want = mixed(bench.brings(0, gain), bench.brings(1, gain), p);
                Check.same("by " + p + " of gain " + gain, want, bench.mix(0, 1, p, gain));
            }
            for (int gain = 0; gain < 2; gain++) {
                long want = mixed(cut.brings(1, gain), cut.brings(0, gain), p);
                Check.same("cut by " + p + " of gain " + gain, want, cut.mix(1, 0, p, gain));
            }
        }
    }

    private static void weigh() {
        Sentences.of("Promise 14", "`int weigh(int gain, int weight) throws IndexOutOfBoundsException, "
                + "IllegalArgumentException`: Sets the weight of a gain; at first all weights are 0.");
        MarkovBench bench = Tape.compiled(WAYS);
        for (int gain = 0; gain < 3; gain++) {
            Check.same("at first", 0, bench.weigh(gain, 3 - gain));
        }
        bench.solve(1);
        Check.same("by the weights 3, 2, 1", 30000, bench.worth(0, 0, 1));
        Sentences.plain("Promise 14", "- `gain`: the gain");
        Sentences.of("Promise 14", "- `weight`: the weight");
        for (int weight = -9; weight <= 9; weight++) {
            bench.weigh(2, weight);
            Check.same("what was set", weight, bench.weigh(2, weight));
        }
        Sentences.of("Promise 14", "Returns the weight before.");
        for (int gain = 0; gain < 3; gain++) {
            bench.weigh(gain, 0);
            Check.same("before", 0, bench.weigh(gain, -9));
            Check.same("before", -9, bench.weigh(gain, 9));
            Check.same("before", 9, bench.weigh(gain, 9));
            Check.same("before", 9, bench.weigh(gain, gain));
        }
        Check.same("each has its own", 0, bench.weigh(0, 0));
        Check.same("each has its own", 1, bench.weigh(1, 0));
        Check.same("each has its own", 2, bench.weigh(2, 0));
        Sentences.of("Promise 14", "Throws `IndexOutOfBoundsException` if there is no such gain");
        for (int gain : FAR) {
            Benches.noIndex("gain " + gain, b -> b.weigh(gain, 0));
            Benches.noIndexWithoutProgram("gain " + gain, b -> b.weigh(gain, 0));
        }
        Benches.noIndex("gain 2 of 2", b -> b.weigh(2, 1));
        Benches.noIndex("gain 3", b -> b.weigh(3, 1));
        Benches.noIndex("gain 2 of 2 by 10", b -> b.weigh(2, 10));
        Check.fails("gain 3 of 3", IndexOutOfBoundsException.class, () -> bench.weigh(3, 0));
        MarkovBench none = Tape.compiled(LOOP);
        Check.fails("gain 0 of none", IndexOutOfBoundsException.class, () -> none.weigh(0, 0));
        Sentences.of("Promise 14", "Throws `IllegalArgumentException` if weight is not -9 to 9");
        for (int weight : new int[] {-10, 10, -11, 99, Integer.MIN_VALUE, Integer.MAX_VALUE}) {
            Benches.noArgument("by " + weight, b -> b.weigh(0, weight));
            Benches.noArgument("the other by " + weight, b -> b.weigh(1, weight));
        }
    }

    private static void solve() {
        Sentences.of("Promise 15", "`int solve(int steps) throws IllegalArgumentException, "
                + "IllegalStateException`: Makes a strategy for the weights of now.");
        MarkovBench bench = Tape.compiled(WAYS);
        bench.weigh(0, 5);
        bench.solve(1);
        bench.weigh(0, 0);
        bench.weigh(2, 7);
        bench.solve(1);
        Check.same("of then", 50000, bench.worth(0, 0, 1));
        Check.same("of now", 70000, bench.worth(1, 0, 1));
        Sentences.of("Promise 15", "- `steps`: the number of its steps");
        for (int steps : new int[] {1, 2, 29, 30}) {
            int made = bench.solve(steps);
            Check.same("all of them", 70000, bench.worth(made, 0, steps));
            Check.fails("one more", IllegalArgumentException.class,
                    () -> bench.worth(made, 0, steps + 1));
        }
        Sentences.of("Promise 15", "Returns its number.");
        Check.same("the seventh", 6, bench.solve(1));
        bench.drop(0);
        Check.same("the seventh again", 6, bench.solve(1));
        Check.same("the first one", 0, Tape.compiled(LOOP).solve(1));
        Sentences.of("Promise 15", "Throws `IllegalArgumentException` if steps is not 1 to 30");
        for (int steps : new int[] {0, -1, 31, 32, Integer.MIN_VALUE, Integer.MAX_VALUE}) {
            Benches.noArgument(steps + " steps", b -> b.solve(steps));
            Benches.noArgumentWithoutProgram(steps + " steps", b -> b.solve(steps));
            Benches.refused(steps + " steps without room", IllegalArgumentException.class,
                    b -> b.solve(steps), Benches::crowded);
        }
        Sentences.of("Promise 15", "Throws `IllegalStateException` if there is no program, or there are 12 "
                + "strategies");
        for (int steps : new int[] {1, 30}) {
            Benches.noStateWithoutProgram("solve", b -> b.solve(steps));
            Benches.noState("a 13th", b -> b.solve(steps), Benches::crowded);
        }
        MarkovBench full = Benches.crowded();
        full.drop(11);
        Check.same("a 12th", 11, full.solve(1));
    }

    private static void takes() {
        Sentences.plain("Promise 16", "`int takes(int strategy, int state, int left) throws "
                + "IndexOutOfBoundsException, IllegalArgumentException`: - `strategy`: a strategy");
        Sentences.plain("Promise 16", "- `state`: a state");
        Sentences.of("Promise 16", "- `left`: how many steps are left");
        // slow pays in its 30th step, a little more than quick at once.
        MarkovBench line = Tape.compiled("var x = 0 in 0 to 30; gain g = (x = 29) * 9; gain now per quick = "
                + "8; do quick when x = 0 go 100 set x = 30; do slow when x < 30 go 100 set x = x + 1;");
        solved(line, 30, 1, 1);
        Check.same("1 left", 0, line.takes(0, 0, 1));
        Check.same("29 left", 0, line.takes(0, 0, 29));
        Check.same("30 left", 1, line.takes(0, 0, 30));
        Sentences.of("Promise 16", "Returns the choice that it takes; -1 if the state has none.");
        MarkovBench bench = Benches.ready();
        Check.same("fast", 0, bench.takes(0, 0, 2));
        Check.same("slow", 1, bench.takes(1, 0, 3));
        Check.same("on", 0, bench.takes(1, 1, 1));
        Check.same("none in a goal with 1", -1, bench.takes(1, 2, 1));
        Check.same("none in a goal with all", -1, bench.takes(1, 2, 3));
        Check.same("none where nothing is enabled", -1, line.takes(0, 1, 30));
        MarkovBench most = TapeEdges.greatest();
        for (int gain = 0; gain < 3; gain++) {
            most.weigh(gain, gain == 2 ? -9 : 0);
        }
        most.drop(0);
        int made = most.solve(1);
        Check.same("the last of 16", 15, most.takes(made, 0, 1));
        Check.same("the first of 15 in the last state", 0, most.takes(made, 99, 1));
        Sentences.of("Promise 16",
                "Throws `IndexOutOfBoundsException` if there is no such strategy or state");
        for (int odd : FAR) {
            Benches.noIndex("strategy " + odd, b -> b.takes(odd, 0, 1));
            Benches.noIndex("strategy and left " + odd, b -> b.takes(odd, 0, odd));
            Benches.noIndex("state " + odd, b -> b.takes(0, odd, 1));
            Benches.noIndex("state and left " + odd, b -> b.takes(0, odd, 0));
        }
        Benches.noIndex("strategy 2 of 2", b -> b.takes(2, 0, 1));
        Benches.noIndex("strategy 2 of 2 with 0 left", b -> b.takes(2, 0, 0));
        Benches.noIndex("state 3 of 3", b -> b.takes(0, 3, 1));
        Benches.noIndex("state 3 of 3 with 9 left", b -> b.takes(0, 3, 9));
        Sentences.of("Promise 16",
                "Throws `IllegalArgumentException` if left is not 1 to the number of its steps");
        for (int left : new int[] {0, -1, 31, Integer.MIN_VALUE, Integer.MAX_VALUE}) {
            Benches.noArgument(left + " left", b -> b.takes(0, 0, left));
            Benches.noArgument(left + " left in a goal", b -> b.takes(1, 2, left));
        }
        Benches.noArgument("3 left of 2", b -> b.takes(0, 0, 3));
        Benches.noArgument("4 left of 3", b -> b.takes(1, 0, 4));
        Check.same("3 left of 3", 1, bench.takes(1, 0, 3));
    }

    private static void worth() {
        Sentences.plain("Promise 17", "`long worth(int strategy, int state, int left) throws "
                + "IndexOutOfBoundsException, IllegalArgumentException`: - `strategy`: a strategy");
        Sentences.plain("Promise 17", "- `state`: a state");
        Sentences.of("Promise 17", "- `left`: how many steps are left");
        MarkovBench bench = Benches.ready();
        long[] byFirst = {0, 90000, 180000};
        for (int left = 0; left <= 2; left++) {
            Check.same(left + " left", byFirst[left], bench.worth(0, 0, left));
        }
        Sentences.of("Promise 17", "Returns worth(state, left), by the weights for which it was made.");
        bench.weigh(0, -9);
        bench.weigh(1, -9);
        Check.same("by 3 and -4", 180000, bench.worth(0, 0, 2));
        Check.same("by 3 and 9", 3 * 39000 + 9 * 50000, bench.worth(1, 0, 3));
        Check.same("in state 1", 90000, bench.worth(1, 1, 3));
        Check.same("in a goal", 0, bench.worth(1, 2, 3));
        MarkovBench most = TapeEdges.greatest();
        most.drop(11);
        most.weigh(0, 9);
        int made = most.solve(30);
        Check.same("in the last of 100 states", 30 * 9 * 990000L, most.worth(made, 99, 30));
        Check.same("there with 0 left", 0, most.worth(made, 99, 0));
        Sentences.of("Promise 17",
                "Throws `IndexOutOfBoundsException` if there is no such strategy or state");
        for (int odd : FAR) {
            Benches.noIndex("strategy " + odd, b -> b.worth(odd, 0, 0));
            Benches.noIndex("strategy " + odd + " with -1 left", b -> b.worth(odd, 0, -1));
            Benches.noIndex("state " + odd, b -> b.worth(0, odd, 0));
            Benches.noIndex("state " + odd + " with -1 left", b -> b.worth(0, odd, -1));
        }
        Benches.noIndex("strategy 2 of 2", b -> b.worth(2, 0, 0));
        Benches.noIndex("state 3 of 3", b -> b.worth(0, 3, 0));
        Benches.noIndex("state 3 of 3 with 3 left of 2", b -> b.worth(0, 3, 3));
        Check.fails("state 100 of 100", IndexOutOfBoundsException.class, () -> most.worth(0, 100, 0));
        Sentences.of("Promise 17",
                "Throws `IllegalArgumentException` if left is not 0 to the number of its steps");
        for (int left : new int[] {-1, 31, Integer.MIN_VALUE, Integer.MAX_VALUE}) {
            Benches.noArgument(left + " left", b -> b.worth(0, 0, left));
            Benches.noArgument(left + " left in a goal", b -> b.worth(1, 2, left));
        }
        Benches.noArgument("3 left of 2", b -> b.worth(0, 0, 3));
        Benches.noArgument("4 left of 3", b -> b.worth(1, 0, 4));
    }

    private static void brings() {
        Sentences.plain("Promise 18", "`long brings(int strategy, int gain) throws "
                + "IndexOutOfBoundsException`: - `strategy`: a strategy");
        Sentences.plain("Promise 18", "- `gain`: a gain");
        Sentences.of("Promise 18", "Returns what it brings of this gain in state 0 with all its steps.");
        MarkovBench bench = Benches.ready();
        Check.same("a of the first", 60000, bench.brings(0, 0));
        Check.same("b of the first", 0, bench.brings(0, 1));
        Check.same("a of the second", 39000, bench.brings(1, 0));
        Check.same("b of the second", 50000, bench.brings(1, 1));
        MarkovBench most = TapeEdges.greatest();
        Check.same("the second gain, by 30 steps", 300000, most.brings(11, 1));
        Check.same("the third gain, by the first command", 0, most.brings(11, 2));
        MarkovBench loop = Tape.compiled(LOOP + "gain g = 1;");
        for (int steps = 1; steps <= 30; steps++) {
            int made = loop.solve(steps);
            Check.same("with all " + steps, 10000L * steps, loop.brings(made, 0));
            loop.drop(made);
        }
        Sentences.of("Promise 18", "Throws `IndexOutOfBoundsException` if there is no such strategy or gain");
        for (int odd : FAR) {
            Benches.noIndex("strategy " + odd, b -> b.brings(odd, 0));
            Benches.noIndex("gain " + odd, b -> b.brings(0, odd));
        }
        Benches.noIndex("strategy 2 of 2", b -> b.brings(2, 0));
        Benches.noIndex("gain 2 of 2", b -> b.brings(0, 2));
        Check.fails("gain 3 of 3", IndexOutOfBoundsException.class, () -> most.brings(0, 3));
        Check.fails("strategy 12 of 12", IndexOutOfBoundsException.class, () -> most.brings(12, 0));
    }

    private static void chance() {
        Sentences.plain("Promise 19",
                "`int chance(int strategy) throws IndexOutOfBoundsException`: - `strategy`: a strategy");
        Sentences.of("Promise 19", "Returns its chance of a goal in state 0 with all its steps.");
        MarkovBench bench = Benches.ready();
        Check.same("the first", 1000000, bench.chance(0));
        Check.same("the second", 1000000, bench.chance(1));
        Check.same("with one step", 700000, bench.chance(bench.solve(1)));
        Sentences.of("Promise 19", "Throws `IndexOutOfBoundsException` if there is no such strategy");
        for (int odd : FAR) {
            Benches.noIndex("strategy " + odd, b -> b.chance(odd));
        }
        Benches.noIndex("strategy 2 of 2", b -> b.chance(2));
        MarkovBench full = Benches.crowded();
        Check.same("strategy 11 of 12", 700000, full.chance(11));
        Check.fails("strategy 12 of 12", IndexOutOfBoundsException.class, () -> full.chance(12));
    }

    private static void isWorthHaving() {
        Sentences.plain("Promise 20", "`boolean isWorthHaving(int strategy) throws "
                + "IndexOutOfBoundsException`: - `strategy`: a strategy");
        Sentences.of("Promise 20", "Returns whether no strategy that is kept is better.");
        MarkovBench bench = Tape.compiled(LOOP + "gain g = 1;");
        for (int i = 0; i < 12; i++) {
            bench.solve(i == 0 ? 5 : i == 11 ? 6 : 4);
        }
        Check.same("the last one is better", false, bench.isWorthHaving(0));
        Check.same("than all", false, bench.isWorthHaving(10));
        Check.same("no one is better than it", true, bench.isWorthHaving(11));
        bench.drop(11);
        Check.same("it is kept no more", true, bench.isWorthHaving(0));
        Check.same("the first one is better", false, bench.isWorthHaving(10));
        bench.drop(0);
        Check.same("nor is the first", true, bench.isWorthHaving(9));
        Check.same("those that bring the same are not better", true, bench.isWorthHaving(0));
        Check.same("alone", true, onlyOne().isWorthHaving(0));
        Sentences.of("Promise 20", "Throws `IndexOutOfBoundsException` if there is no such strategy");
        for (int odd : FAR) {
            Benches.noIndex("strategy " + odd, b -> b.isWorthHaving(odd));
        }
        Benches.noIndex("strategy 2 of 2", b -> b.isWorthHaving(2));
        MarkovBench full = Benches.crowded();
        Check.fails("strategy 12 of 12", IndexOutOfBoundsException.class, () -> full.isWorthHaving(12));
    }

    private static MarkovBench onlyOne() {
        MarkovBench bench = Tape.compiled(LOOP + "gain g = 1;");
        bench.solve(1);
        return bench;
    }

    private static void sweep() {
        Sentences.of("Promise 21", "`int sweep(int first, int second, int n, int steps) throws "
                + "IndexOutOfBoundsException, IllegalArgumentException, IllegalStateException`: Makes "
                + "strategies for two gains: for each k from 0 to a number n, with the weights k for the "
                + "first one, n - k for the second one, and 0 for others; those that bring the same of all "
                + "gains in state 0 as one that is kept already are not kept.");
        // c brings c of a and 81 - c * c of b: another c is the best for k from 5 on, 0 before.
        for (int n = 1; n <= 9; n++) {
            MarkovBench bench = Tape.compiled(tenWays());
            bench.weigh(0, -9);
            bench.weigh(1, -8);
            long before = -1;
            int made = 0;
            for (int k = 0; k <= n; k++) {
                // The greatest of k * c + (n - k) * (81 - c * c), the least c of several.
                int best = 0;
                for (int c = 1; c <= 9; c++) {
                    if (k * c + (n - k) * (81 - c * c) > k * best + (n - k) * (81 - best * best)) {
                        best = c;
                    }
                }
                made += best != before ? 1 : 0;
                before = best;
            }
            Check.same("by n " + n, made, bench.sweep(0, 1, n, 2));
            Check.same("the first is by k 0", 810000L * n, bench.worth(0, 0, 2));
            Check.same("the last is by k n", 90000L * n, bench.worth(made - 1, 0, 2));
            Check.same("the weights are as before", -9, bench.weigh(0, 0));
            Check.same("the weights are as before", -8, bench.weigh(1, 0));
            Check.same("nothing new by the same", 0, bench.sweep(0, 1, n, 2));
            Check.same("nor the other way round", 0, bench.sweep(1, 0, n, 2));
            Check.same("so many are kept", made, bench.count(4));
        }
        // Others have no weight, whichever they are; and they tell apart what brings the same.
        int[][] pairs = {{0, 1, 2}, {1, 0, 2}, {0, 2, 1}, {2, 0, 1}, {1, 2, 0}, {2, 1, 0}};
        for (int[] pair : pairs) {
            MarkovBench bench = Tape.compiled(WAYS);
            bench.weigh(pair[2], 9);
            Check.same("two of them", 2, bench.sweep(pair[0], pair[1], 1, 1));
            Check.same("the second one by k 0", 10000, bench.brings(0, pair[1]));
            Check.same("the first one by k 1", 10000, bench.brings(1, pair[0]));
            Check.same("nothing of the other", 0, bench.brings(0, pair[2]) + bench.brings(1, pair[2]));
            Check.same("what the first is worth", 10000, bench.worth(0, 0, 1));
        }
        for (int[] pair : pairs) {
            // b brings the first gain, and much more or less of the other, which has no weight.
            for (int much : new int[] {-5, 5}) {
                MarkovBench bench = Tape.compiled("var x = 0 in 0 to 1; " + twoOfThree(pair, much)
                        + "do a when x = 0 go 100 set x = 1; do b when x = 0 go 100 set x = 1;");
                bench.weigh(pair[2], -9);
                Check.same("a and b", 2, bench.sweep(pair[0], pair[1], 1, 1));
                Check.same("a by k 0, where both are worth the same", 0, bench.takes(0, 0, 1));
                Check.same("b by k 1", 1, bench.takes(1, 0, 1));
                Check.same("with no weight of the other", 10000, bench.worth(1, 0, 1));
                Check.same("which it brings", 10000L * much, bench.brings(1, pair[2]));
            }
        }
        for (int other = 0; other < 3; other++) {
            // a and b differ by one gain alone; the weights of two others are of no use.
            MarkovBench bench = Tape.compiled("var x = 0 in 0 to 1; " + threeGains(other)
                    + "do a when x = 0 go 100 set x = 1; do b when x = 0 go 100 set x = 1;");
            bench.weigh(other, 1);
            bench.solve(1);
            Check.same("b is kept", 10000, bench.brings(0, other));
            Check.same("a is told apart", 1, bench.sweep((other + 1) % 3, (other + 2) % 3, 9, 1));
            Check.same("which has less", 0, bench.brings(1, other));
            Check.same("and is kept already", 0, bench.sweep((other + 1) % 3, (other + 2) % 3, 9, 1));
        }
        Sentences.plain("Promise 21", "- `first`: a gain");
        Sentences.of("Promise 21", "- `second`: another gain");
        Benches.noArgument("the same gain", b -> b.sweep(0, 0, 1, 1));
        Sentences.of("Promise 21", "- `n`: the number");
        for (int n : new int[] {1, 9}) {
            MarkovBench bench = Tape.compiled(WAYS);
            bench.sweep(0, 1, n, 1);
            Check.same("n for the second by k 0", 10000L * n, bench.worth(0, 0, 1));
            // The first k that is greater than n - k.
            Check.same("the first gain", n == 1 ? 10000 : 50000, bench.worth(1, 0, 1));
        }
        Sentences.of("Promise 21", "- `steps`: the number of their steps");
        for (int steps : new int[] {1, 30}) {
            MarkovBench bench = Tape.compiled(WAYS);
            bench.sweep(0, 1, 1, steps);
            for (int made = 0; made < 2; made++) {
                int one = made;
                Check.same("all of them", 10000, bench.worth(made, 0, steps));
                Check.fails("one more", IllegalArgumentException.class,
                        () -> bench.worth(one, 0, steps + 1));
            }
        }
        Sentences.of("Promise 21", "Returns how many were kept.");
        MarkovBench bench = Tape.compiled(WAYS);
        Check.same("two", 2, bench.sweep(0, 1, 3, 1));
        Check.same("one of two", 1, bench.sweep(1, 2, 3, 1));
        Check.same("none", 0, bench.sweep(0, 2, 3, 1));
        Check.same("so that three are", 3, bench.count(4));
        Check.same("ways that bring the same", 1,
                Tape.compiled(LOOP + "gain g = 1; gain h = 2;").sweep(0, 1, 9, 30));
    }

    /** Ways to the states 1 + c, which bring c of one gain and 81 - c * c of the other one. */
    private static String tenWays() {
        StringBuilder text = new StringBuilder("var x = 0 in 0 to 1; var c = 0 in 0 to 9; ");
        text.append("gain a = c * x; gain b = (81 - c * c) * x; do end when x = 1 go 100; ");
        for (int i = 0; i < 10; i++) {
            text.append("do c").append(i).append(" when x = 0 go 100 set x = 1, c = ").append(i)
                    .append("; ");
        }
        return text.toString();
    }

    /** Three gains, of which this one is brought by the command b, and the others never. */
    private static String threeGains(int which) {
        StringBuilder text = new StringBuilder();
        for (int gain = 0; gain < 3; gain++) {
            text.append("gain g").append(gain).append(gain == which ? " per b = 1; " : " = 0; ");
        }
        return text.toString();
    }

    /** Three gains, of which the command b brings 1 of the first of these and so much of the last. */
    private static String twoOfThree(int[] which, int much) {
        String[] gains = new String[3];
        gains[which[0]] = "gain g" + which[0] + " per b = 1; ";
        gains[which[1]] = "gain g" + which[1] + " = 0; ";
        gains[which[2]] = "gain g" + which[2] + " per b = " + much + "; ";
        return String.join("", gains);
    }

    private static void sweepRefused() {
        Sentences.of("Promise 21", "Throws `IndexOutOfBoundsException` if there is no such gain");
        for (int odd : FAR) {
            Benches.noIndex("first " + odd, b -> b.sweep(odd, 0, 1, 1));
            Benches.noIndex("second " + odd, b -> b.sweep(0, odd, 1, 1));
            Benches.noIndex("both " + odd, b -> b.sweep(odd, odd, 0, 31));
        }
        Benches.noIndex("first 2 of 2", b -> b.sweep(2, 0, 1, 1));
        Benches.noIndex("second 2 of 2", b -> b.sweep(0, 2, 1, 1));
        Benches.noIndex("both 2 of 2", b -> b.sweep(2, 2, 1, 1));
        Benches.noIndex("first 2 of 2 with a wrong n", b -> b.sweep(2, 1, 0, 0));
        Benches.noIndex("second 2 of 2 with wrong steps", b -> b.sweep(1, 2, 10, 31));
        Benches.refused("first 2 of 2 without room", IndexOutOfBoundsException.class,
                b -> b.sweep(2, 1, 1, 1), Benches::crowded);
        Sentences.of("Promise 21", "Throws `IllegalArgumentException` if first and second are the same, n "
                + "is not 1 to 9, or steps is not 1 to 30");
        for (int gain = 0; gain < 2; gain++) {
            int same = gain;
            Benches.noArgument("both " + gain, b -> b.sweep(same, same, 1, 1));
            Benches.refused("both " + gain + " without room", IllegalArgumentException.class,
                    b -> b.sweep(same, same, 1, 1), Benches::crowded);
        }
        for (int odd : new int[] {0, -1, 10, 31, Integer.MIN_VALUE, Integer.MAX_VALUE}) {
            Benches.noArgument("n " + odd, b -> b.sweep(0, 1, odd, 1));
            Benches.noArgument("n and steps " + odd, b -> b.sweep(0, 1, odd, odd));
            Benches.refused("n " + odd + " without room", IllegalArgumentException.class,
                    b -> b.sweep(0, 1, odd, 1), Benches::crowded);
        }
        for (int odd : new int[] {0, -1, 31, Integer.MIN_VALUE, Integer.MAX_VALUE}) {
            Benches.noArgument("steps " + odd, b -> b.sweep(0, 1, 1, odd));
            Benches.refused("steps " + odd + " without room", IllegalArgumentException.class,
                    b -> b.sweep(0, 1, 1, odd), Benches::crowded);
        }
        Sentences.of("Promise 21",
                "Throws `IllegalStateException` if there would be more than 12 strategies");
        // By one step it makes what slow brings, which is kept, and what fast brings, which is not.
        Benches.noState("one too many", b -> b.sweep(0, 1, 1, 1), Benches::crowded);
        Benches.noState("one too many", b -> b.sweep(1, 0, 9, 1), Benches::crowded);
        Check.same("nothing new", 0, Benches.crowded().sweep(0, 1, 9, 2));
        for (int free = 1; free <= 4; free++) {
            int room = free;
            Benches.Maker maker = () -> withRoom(room);
            if (free < 3) {
                Benches.noState("three for " + free, b -> b.sweep(0, 1, 9, 2), maker);
            } else {
                Check.same("three for " + free, 3, maker.make().sweep(0, 1, 9, 2));
            }
        }
        MarkovBench full = withRoom(3);
        full.sweep(0, 1, 9, 2);
        Check.same("all rooms are taken", 12, full.count(4));
        Check.same("by the last of the three", 90000, full.brings(11, 0));
        Check.same("nothing new needs no room", 0, full.sweep(1, 0, 9, 2));
    }

    /** A bench on which a sweep would make three strategies, with room for so many. */
    private static MarkovBench withRoom(int room) {
        MarkovBench bench = Tape.compiled("var x = 0 in 0 to 1; var c = 0 in 0 to 9; gain a = c * x; gain b "
                + "= (81 - c * c) * x; do end when x = 1 go 100; do c0 when x = 0 go 100 set x = 1; "
                + "do c2 when x = 0 go 100 set x = 1, c = 2; do c9 when x = 0 go 100 set x = 1, c = 9;");
        for (int i = 0; i < 12 - room; i++) {
            Check.same("one that brings nothing", i, bench.solve(1));
        }
        return bench;
    }

    private static void mix() {
        Sentences.plain("Promise 22", "`long mix(int a, int b, int p, int gain) throws "
                + "IndexOutOfBoundsException, IllegalArgumentException`: - `a`: a strategy");
        Sentences.plain("Promise 22", "- `b`: a strategy");
        Sentences.of("Promise 22", "- `p`: the hundredths of the first one");
        MarkovBench bench = Benches.ready();
        Check.same("all of the first", 60000, bench.mix(0, 1, 100, 0));
        Check.same("none of the first", 39000, bench.mix(0, 1, 0, 0));
        Check.same("one of the first", 39210, bench.mix(0, 1, 1, 0));
        Check.same("all but one of the first", 59790, bench.mix(0, 1, 99, 0));
        Check.same("the other way round", 39210, bench.mix(1, 0, 99, 0));
        Check.same("with itself", 60000, bench.mix(0, 0, 41, 0));
        Sentences.plain("Promise 22", "- `gain`: a gain");
        Sentences.of("Promise 22", "Returns what the mix of both brings of the gain.");
        Check.same("the first gain", 49500, bench.mix(0, 1, 50, 0));
        Check.same("the second gain", 25000, bench.mix(0, 1, 50, 1));
        MarkovBench most = TapeEdges.greatest();
        Check.same("the last of all", 0, most.mix(11, 11, 100, 2));
        Check.same("the last of both", 300000, most.mix(0, 11, 50, 1));
        Sentences.of("Promise 22", "Throws `IndexOutOfBoundsException` if there is no such strategy or gain");
        for (int odd : FAR) {
            Benches.noIndex("first " + odd, b -> b.mix(odd, 0, 50, 0));
            Benches.noIndex("second " + odd, b -> b.mix(0, odd, 50, 0));
            Benches.noIndex("gain " + odd, b -> b.mix(0, 1, 50, odd));
            Benches.noIndex("gain " + odd + " by 101", b -> b.mix(0, 1, 101, odd));
        }
        Benches.noIndex("first 2 of 2", b -> b.mix(2, 0, 0, 0));
        Benches.noIndex("second 2 of 2", b -> b.mix(0, 2, 100, 0));
        Benches.noIndex("gain 2 of 2", b -> b.mix(0, 1, 50, 2));
        Benches.noIndex("first 2 of 2 by 101", b -> b.mix(2, 0, 101, 0));
        Benches.noIndex("second 2 of 2 by -1", b -> b.mix(0, 2, -1, 0));
        Benches.noIndex("gain 2 of 2 by -1", b -> b.mix(0, 1, -1, 2));
        Sentences.of("Promise 22", "Throws `IllegalArgumentException` if p is not 0 to 100");
        for (int p : new int[] {-1, 101, Integer.MIN_VALUE, Integer.MAX_VALUE}) {
            Benches.noArgument("by " + p, b -> b.mix(0, 1, p, 0));
            Benches.noArgument("with itself by " + p, b -> b.mix(1, 1, p, 1));
        }
    }

    private static void bestMix() {
        Sentences.of("Promise 23", "`int bestMix(int first, int second, long bound) throws "
                + "IndexOutOfBoundsException`: Tells the mix that brings most of a gain, with at least so "
                + "much of another one: of all pairs of strategies a and b with a not greater than b, and "
                + "all p from 0 to 100, for which the mix brings at least the bound of the second gain, the "
                + "one that brings most of the first gain; of several the one with the smallest a, then the "
                + "smallest b, then the smallest p.");
        MarkovBench bench = Tape.compiled(WAYS);
        solved(bench, 1, 1, 0, 0);
        solved(bench, 1, 0, 1, 0);
        Check.same("half of each", 1050, bench.bestMix(0, 1, 5000));
        Check.same("one more than that", 1049, bench.bestMix(0, 1, 5001));
        Check.same("one less than that", 1050, bench.bestMix(0, 1, 4999));
        Check.same("most of the second, by p 0", 1050, bench.bestMix(1, 0, 5000));
        Check.same("p 0", 1000, bench.bestMix(0, 1, 10000));
        Check.same("p 1", 1001, bench.bestMix(0, 1, 9900));
        Check.same("p 99", 1099, bench.bestMix(0, 1, 100));
        Check.same("not p 100 of both, but the first alone", 0, bench.bestMix(0, 1, 0));
        Check.same("all bring the same of the third: the smallest of all", 0, bench.bestMix(2, 0, 0));
        Check.same("the smallest p of the first with itself", 0, bench.bestMix(2, 0, 10000));
        Check.same("the second alone comes behind both", 1000, bench.bestMix(2, 1, 10000));
        // The smallest a, then the smallest b, then the smallest p.
        MarkovBench four = Tape.compiled(WAYS);
        solved(four, 1, 0, 0, 1);
        solved(four, 1, 1, 0, 0);
        solved(four, 1, 0, 1, 0);
        solved(four, 1, 1, 0, 0);
        Check.same("1 and 2, ahead of 2 and 3", 102050, four.bestMix(0, 1, 5000));
        Check.same("0 and 1 by 0, ahead of 0 and 3, and of 1 alone", 1000, four.bestMix(0, 1, 0));
        Check.same("0 and 2 by 0", 2000, four.bestMix(0, 1, 10000));
        MarkovBench same = Tape.compiled(WAYS);
        for (int i = 0; i < 12; i++) {
            same.solve(1);
        }
        Check.same("all the same", 0, same.bestMix(0, 1, 0));
        same.drop(11);
        same.drop(10);
        solved(same, 1, 1, 0, 0);
        solved(same, 1, 0, 1, 0);
        Check.same("the last two", 1011050, same.bestMix(0, 1, 5000));
        Check.same("0 and the last one", 11000, same.bestMix(0, 1, 10000));
        // Mixes that are cut, that are below 0, and that wrap around.
        checkAllBounds(CUT, 1, 2, 3, 4);
        checkAllBounds(LOOP + "gain g = " + BIG + "; gain h = 7777 * 7777 * 7777 * 7777;", 1, 2, 30);
        checkAllBounds(LOOP + "gain g = " + TO_LEAST + "; gain h = -" + TO_LEAST + ";", 1, 2);
        Sentences.plain("Promise 23", "- `first`: a gain");
        Sentences.of("Promise 23", "- `second`: another gain");
        Check.same("or the same one", 0, bench.bestMix(0, 0, 10000));
        Check.same("or the same one, beyond it", -1, bench.bestMix(0, 0, 10001));
        Sentences.of("Promise 23", "- `bound`: the bound");
        Check.same("the least", 0, bench.bestMix(0, 1, Long.MIN_VALUE));
        Check.same("the greatest", -1, bench.bestMix(0, 1, Long.MAX_VALUE));
        Check.same("just what the best brings", 1000, bench.bestMix(0, 1, 10000));
        Check.same("one more", -1, bench.bestMix(0, 1, 10001));
        Check.same("more than 32 bits", -1, bench.bestMix(0, 1, 1L << 32));
        Sentences.of("Promise 23", "Returns 100000 times a, and 1000 times b, and p; -1 if there is none.");
        Check.same("without strategies", -1, Tape.compiled(WAYS).bestMix(0, 1, Long.MIN_VALUE));
        Check.same("one alone", 0, onlyOneOfTwo().bestMix(0, 1, 20000));
        Check.same("one alone, beyond it", -1, onlyOneOfTwo().bestMix(0, 1, 20001));
        Check.same("10, 11 and 50", 1011050, same.bestMix(0, 1, 5000));
        Sentences.of("Promise 23", "Throws `IndexOutOfBoundsException` if there is no such gain");
        for (int odd : FAR) {
            Benches.noIndex("first " + odd, b -> b.bestMix(odd, 0, 0));
            Benches.noIndex("second " + odd, b -> b.bestMix(0, odd, 0));
        }
        Benches.noIndex("first 2 of 2", b -> b.bestMix(2, 0, 0));
        Benches.noIndex("second 2 of 2", b -> b.bestMix(0, 2, 0));
        Check.fails("first 3 of 3", IndexOutOfBoundsException.class, () -> same.bestMix(3, 0, 0));
        Check.fails("without gains", IndexOutOfBoundsException.class,
                () -> Tape.compiled(LOOP).bestMix(0, 0, 0));
    }

    private static MarkovBench onlyOneOfTwo() {
        MarkovBench bench = Tape.compiled(LOOP + "gain g = 1; gain h = 2;");
        bench.solve(1);
        return bench;
    }

    /** For each number that a mix brings, and one more, the best mix by the words of the document. */
    private static void checkAllBounds(String program, int... steps) {
        MarkovBench bench = Tape.compiled(program);
        for (int one : steps) {
            bench.solve(one);
        }
        for (int p = 0; p <= 100; p += 20) {
            for (int more = 0; more <= 1; more++) {
                for (int first = 0; first < 2; first++) {
                    long bound = mixed(bench.brings(0, 1 - first), bench.brings(1, 1 - first), p) + more;
                    Check.same(program + " with at least " + bound, best(bench, first, bound),
                            bench.bestMix(first, 1 - first, bound));
                }
            }
        }
    }

    private static int best(MarkovBench bench, int first, long bound) {
        int best = -1;
        long most = 0;
        for (int a = bench.count(4) - 1; a >= 0; a--) {
            for (int b = bench.count(4) - 1; b >= a; b--) {
                for (int p = 100; p >= 0; p--) {
                    long brought = mixed(bench.brings(a, first), bench.brings(b, first), p);
                    long other = mixed(bench.brings(a, 1 - first), bench.brings(b, 1 - first), p);
                    if (other >= bound && (best < 0 || brought >= most)) {
                        best = 100000 * a + 1000 * b + p;
                        most = brought;
                    }
                }
            }
        }
        return best;
    }

    private static void drop() {
        Sentences.of("Promise 24", "`int drop(int strategy) throws IndexOutOfBoundsException`: Drops a "
                + "strategy; those behind it have numbers that are 1 less.");
        for (int dropped = 0; dropped < 12; dropped++) {
            MarkovBench bench = Tape.compiled(LOOP + "gain g = 1;");
            for (int steps = 1; steps <= 12; steps++) {
                bench.solve(steps);
            }
            bench.drop(dropped);
            for (int i = 0; i < 11; i++) {
                int steps = i < dropped ? i + 1 : i + 2;
                Check.same("what " + i + " brings", 10000L * steps, bench.brings(i, 0));
                Check.same("what " + i + " takes", 0, bench.takes(i, 0, steps));
            }
            Check.same("the next one", 11, bench.solve(30));
            Check.same("is behind them", 300000, bench.brings(11, 0));
            Check.same("and changes no other one", dropped == 11 ? 110000 : 120000, bench.brings(10, 0));
        }
        Sentences.plain("Promise 24", "- `strategy`: the strategy");
        Sentences.of("Promise 24", "Returns how many are left.");
        MarkovBench full = Benches.crowded();
        for (int left = 11; left >= 0; left--) {
            Check.same("left", left, full.drop(left / 2));
            Check.same("counted", left, full.count(4));
        }
        Sentences.of("Promise 24", "Throws `IndexOutOfBoundsException` if there is no such strategy");
        for (int odd : FAR) {
            Benches.noIndex("strategy " + odd, b -> b.drop(odd));
        }
        Benches.noIndex("strategy 2 of 2", b -> b.drop(2));
        Benches.refused("strategy 12 of 12", IndexOutOfBoundsException.class, b -> b.drop(12),
                Benches::crowded);
        Check.fails("strategy 0 of none", IndexOutOfBoundsException.class, () -> full.drop(0));
    }
}
