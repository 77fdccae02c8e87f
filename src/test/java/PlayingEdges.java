import java.math.BigInteger;
import java.util.ArrayList;
import java.util.List;

/** The sentences on playing, on exceptions, and those of promises 25 to 30. */
final class PlayingEdges {
    private static final String X = "var x = 0 in 0 to 9; ";
    private static final String A = "do a when 1 go 100; ";
    private static final int[] FAR = {-1, Integer.MIN_VALUE, Integer.MAX_VALUE, 12, 100};
    private static final BigInteger WORD = BigInteger.ONE.shiftLeft(64);
    private static final BigInteger FACTOR = new BigInteger("6364136223846793005");
    private static final BigInteger MORE = new BigInteger("1442695040888963407");
    private static final String CUT = "var x = 0 in 0 to 1; gain plus = 1; "
            + "do s when x = 0 go 33 also go 67 set x = 1; goal x = 1;";
    private static final String BIG = "262144 * 262144 * 262144 * 256";
    // What is brought is the branch of the step before.
    private static final String DICE = "var x = 0 in 0 to 3; gain sum = x; gain minus = -x; gain one = 1; "
            + "do roll when 1 go 10 set x = 0 also go 20 set x = 1 also go 30 set x = 2 also go 40 set x = "
            + "3;";

    // In state 0, with 1 left quick is taken, with 2 left risk, which stays there by 0 to 98.
    private static final String RISK = "var x = 0 in 0 to 1; gain g = 1000 * x; gain now per quick = 3; do "
            + "quick when x = 0 go 100; do risk when x = 0 go 99 also go 1 set x = 1; do rest when x = 1 "
            + "go 100;";

    private PlayingEdges() { }

    static void run() {
        die();
        branches();
        ends();
        exceptions();
        reach();
        seed();
        play();
        played();
        average();
        digest();
    }

    private static long next(long z) {
        return BigInteger.valueOf(z).multiply(FACTOR).add(MORE).mod(WORD).longValue();
    }

    /** The number from which a throw makes this one. */
    private static long before(long z) {
        return BigInteger.valueOf(z).subtract(MORE).multiply(FACTOR.modInverse(WORD)).mod(WORD)
                .longValue();
    }

    /** Branches with these chances, each of which leads to a value of its own. */
    private static String branching(int... chances) {
        StringBuilder text = new StringBuilder("var x = 0 in 0 to 9; do roll when x = 0");
        for (int i = 0; i < chances.length; i++) {
            text.append(i == 0 ? " go " : " also go ").append(chances[i]).append(" set x = ").append(i + 1);
        }
        return text + ";";
    }

    /** Which branch one step takes, if the throw makes this number. */
    private static int taken(MarkovBench bench, long thrown) {
        bench.seed(before(thrown));
        int state = bench.play(0);
        Check.same("z is what the throw makes", thrown, bench.seed(0));
        return bench.value(state, 0) - 1;
    }

    private static void die() {
        Sentences.of("Terms", "Playing. A die has a number z of 64 bits. A throw: z becomes z * "
                + "6364136223846793005 + 1442695040888963407; its result is the remainder of the highest "
                + "31 bits of z (z shifted right by 33 bits, filled with 0) by 100.");
        long[] starts = {0, 1, -1, Long.MIN_VALUE, Long.MAX_VALUE, 1L << 33, (1L << 33) - 1, -77};
        MarkovBench bench = Tape.compiled(DICE);
        bench.solve(1);
        bench.solve(30);
        for (long start : starts) {
            bench.seed(start);
            bench.play(0);
            Check.same("one throw from " + start, next(start), bench.seed(start));
            bench.play(1);
            long z = start;
            for (int i = 0; i < 30; i++) {
                z = next(z);
            }
            Check.same("30 throws from " + start, z, bench.seed(0));
        }
        // Results 0 to 99 by the least and the greatest of the highest 31 bits, and any lower bits.
        MarkovBench two = Tape.compiled(branching(50, 50));
        two.solve(1);
        long last = (1L << 31) - 1;
        long[] highs = {0, 1, 49, 50, 99, 100, 149, 150, 199, 200, 1L << 30, (1L << 30) - 1, last, last - 1,
            last - 46, last - 47, last - 48, last - 97, last - 98};
        for (long high : highs) {
            for (long low : new long[] {0, 1, 1L << 32, (1L << 33) - 1}) {
                int want = high % 100 < 50 ? 0 : 1;
                Check.same("by " + high + " and " + low, want, taken(two, high << 33 | low));
            }
        }
    }

    private static void branches() {
        Sentences.of("Terms", "A step in a state takes the choice of the strategy for the steps that are "
                + "left, and throws the die: the branch is the first one for which the sum of the chances "
                + "up to it (with it) is greater than the result.");
        int[][] rows = {{100}, {1, 99}, {99, 1}, {50, 50}, {1, 98, 1}, {33, 33, 34}, {25, 25, 25, 25},
            {1, 1, 1, 97}, {97, 1, 1, 1}};
        for (int[] row : rows) {
            MarkovBench bench = Tape.compiled(branching(row));
            bench.solve(1);
            int result = 0;
            for (int branch = 0; branch < row.length; branch++) {
                for (int i = 0; i < row[branch]; i++) {
                    Check.same("by " + result, branch, taken(bench, (long) result << 33));
                    result++;
                }
            }
        }
        // The steps that are left: quick with 1 and 2, slow with 3 and more.
        MarkovBench late = Tape.compiled("var x = 0 in 0 to 3; gain g = 10 * (x = 2); gain now per quick = "
                + "5; do quick when x = 0 go 100 set x = 3; do slow when x < 3 go 100 set x = x + 1;");
        late.weigh(0, 1);
        late.weigh(1, 1);
        int[] steps = {1, 1, 3, 3};
        for (int all = 1; all <= 4; all++) {
            late.solve(all);
            Check.same("it ends in 3", 3, late.value(late.play(all - 1), 0));
            Check.same("so many steps of " + all, steps[all - 1], late.played(0));
        }
        MarkovBench risky = risky();
        risky.seed(before(98L << 33));
        Check.same("risk leads back", 0, risky.play(0));
        Check.same("and then quick is taken", 3, risky.played(2));
        risky.seed(before(99L << 33));
        Check.same("risk leads on", 1, risky.value(risky.play(0), 0));
        Check.same("and then rest is taken", 1000, risky.played(1));
        MarkovBench turn = Tape.compiled("var x = 0 in 0 to 2; var t = 0 in 0 to 3; gain g = 9 * (x = 2); "
                + "gain now per stay = 1; do stay when x < 2 go 100; do on when x < 2 go 100 set x = x + 1; "
                + "do last when x = 2 go 100;");
        turn.weigh(0, 1);
        turn.weigh(1, 1);
        turn.solve(2);
        turn.solve(3);
        Check.same("stays, since two are too few", 0, turn.value(turn.play(0), 0));
        Check.same("goes on with three", 2, turn.value(turn.play(1), 0));
        Check.same("for the great gain", 9, turn.played(1));
    }

    private static MarkovBench risky() {
        MarkovBench bench = Tape.compiled(RISK);
        bench.weigh(0, 1);
        bench.weigh(1, 1);
        bench.solve(2);
        Check.same("with 2 left", 1, bench.takes(0, 0, 2));
        Check.same("with 1 left", 0, bench.takes(0, 0, 1));
        return bench;
    }

    private static void ends() {
        Sentences.of("Terms", "A play ends when no steps are left, or the state has no choices.");
        for (int steps : new int[] {1, 2, 29, 30}) {
            MarkovBench bench = Tape.compiled(DICE);
            bench.solve(steps);
            bench.play(0);
            Check.same("no steps are left", steps, bench.played(0));
            Check.same("a gain in each", steps, bench.played(3));
        }
        String line = "var x = 0 in 0 to 5; do a when x < 5 go 100 set x = x + 1; ";
        for (String goal : new String[] {"", "goal x = 5;", "goal x = 4;", "goal x = 0;"}) {
            MarkovBench bench = Tape.compiled(line + goal);
            bench.solve(30);
            int far = goal.contains("4") ? 4 : goal.contains("0") ? 0 : 5;
            bench.seed(99);
            Check.same("where it ends by " + goal, far, bench.play(0));
            Check.same("steps by " + goal, far, bench.played(0));
            long z = 99;
            for (int i = 0; i < far; i++) {
                z = next(z);
            }
            Check.same("as many throws", z, bench.seed(0));
        }
        MarkovBench just = Tape.compiled(line);
        just.solve(4);
        just.solve(5);
        just.solve(6);
        Check.same("one step too few", 4, just.play(0));
        Check.same("just as many", 5, just.play(1));
        Check.same("one more", 5, just.play(2));
        Check.same("which is not made", 5, just.played(0));
    }

    private static void exceptions() {
        Sentences.of("Terms", "A method that throws an exception changes nothing.");
        // Each other refused call is looked at in the same way, where its own sentence is tested.
        Benches.noIndex("count", b -> b.count(6));
        Benches.noIndex("test", b -> b.test(3));
        Benches.noArgument("trim", b -> b.trim(8));
        Benches.noArgument("weigh", b -> b.weigh(0, 10));
        Benches.noArgument("solve", b -> b.solve(31));
        Benches.noArgument("sweep", b -> b.sweep(0, 1, 10, 1));
        Benches.noState("solve without room", b -> b.solve(1), Benches::crowded);
        Benches.noState("sweep without room", b -> b.sweep(0, 1, 1, 1), Benches::crowded);
        Benches.noIndex("drop", b -> b.drop(2));
        Benches.noIndex("play", b -> b.play(2));
        Benches.noArgument("average", b -> b.average(0, 0, 21));
        Sentences.of("Terms", "If several exceptions apply, the one that is named first is thrown.");
        Benches.noIndex("weigh", b -> b.weigh(2, 10));
        Benches.noIndex("takes", b -> b.takes(2, 0, 0));
        Benches.noIndex("takes", b -> b.takes(0, 3, 0));
        Benches.noIndex("worth", b -> b.worth(2, 0, -1));
        Benches.noIndex("worth", b -> b.worth(0, 3, -1));
        Benches.noIndex("sweep", b -> b.sweep(2, 2, 0, 0));
        Benches.refused("sweep", IndexOutOfBoundsException.class, b -> b.sweep(0, 2, 1, 1),
                Benches::crowded);
        Benches.refused("sweep", IllegalArgumentException.class, b -> b.sweep(0, 1, 0, 1),
                Benches::crowded);
        Benches.noIndexWithoutProgram("sweep", b -> b.sweep(0, 0, 0, 0));
        Benches.noArgumentWithoutProgram("solve", b -> b.solve(0));
        Benches.refused("solve", IllegalArgumentException.class, b -> b.solve(31), Benches::crowded);
        Benches.noIndex("mix", b -> b.mix(2, 0, 101, 0));
        Benches.noIndex("mix", b -> b.mix(0, 0, -1, 2));
        Benches.noArgumentWithoutProgram("reach", b -> b.reach(31, true));
        Benches.noIndex("average", b -> b.average(2, 0, 0));
        Benches.noIndex("average", b -> b.average(0, 2, 21));
    }

    private static void reach() {
        Sentences.of("Promise 25", "`int reach(int steps, boolean isLeast) throws "
                + "IllegalArgumentException, IllegalStateException`: - `steps`: a number of steps");
        MarkovBench line = Tape.compiled("var x = 0 in 0 to 30; do a when x < 30 go 100 set x = x + 1; goal "
                + "x = 30;");
        for (int steps = 0; steps <= 30; steps++) {
            Check.same("with " + steps, steps < 30 ? 0 : 1000000, line.reach(steps, false));
            Check.same("with " + steps, steps < 30 ? 0 : 1000000, line.reach(steps, true));
        }
        Sentences.of("Promise 25", "- `isLeast`: whether the least chance of a goal is meant, that the "
                + "choices can bring; otherwise the greatest one");
        MarkovBench bench = Benches.ready();
        int[] least = {0, 0, 1000000, 1000000};
        int[] greatest = {0, 700000, 1000000, 1000000};
        for (int steps = 0; steps < 4; steps++) {
            Check.same("the least with " + steps, least[steps], bench.reach(steps, true));
            Check.same("the greatest with " + steps, greatest[steps], bench.reach(steps, false));
        }
        Sentences.of("Promise 25", "Returns this chance in state 0, in millionths: reckoned as that of a "
                + "strategy, with the least or greatest one of all choices in each state and step.");
        MarkovBench cut = Tape.compiled(CUT);
        long chance = 0;
        for (int steps = 0; steps <= 30; steps++) {
            Check.same("cut with " + steps, chance, cut.reach(steps, false));
            Check.same("cut with " + steps, chance, cut.reach(steps, true));
            chance = (33 * chance + 67 * 1000000) / 100;
        }
        MarkovBench many = Tape.compiled("var x = 0 in 0 to 99; do one when x < 99 go 100 set x = x + 1; "
                + "do four when x < 99 go 100 set x = min(99, x + 4); goal x = 99;");
        Check.same("as many states as may be", 100, many.count(3));
        Check.same("the greatest with 24", 0, many.reach(24, false));
        Check.same("the greatest with 25", 1000000, many.reach(25, false));
        Check.same("the least with 30", 0, many.reach(30, true));
        MarkovBench at = Tape.compiled(X + A + "goal 1;");
        MarkovBench stuck = Tape.compiled(X + "do a when 0 go 100; goal x;");
        MarkovBench none = Tape.compiled(X + A);
        for (int steps : new int[] {0, 1, 30}) {
            for (boolean isLeast : new boolean[] {true, false}) {
                Check.same("in a goal", 1000000, at.reach(steps, isLeast));
                Check.same("without choices", 0, stuck.reach(steps, isLeast));
                Check.same("without a goal", 0, none.reach(steps, isLeast));
            }
        }
        // The first, the second or the last choice is the least or the greatest; later by others.
        int[][] orders = {{10, 20, 30}, {10, 30, 20}, {20, 10, 30}, {20, 30, 10}, {30, 10, 20}, {30, 20, 10}};
        for (int[] order : orders) {
            StringBuilder text = new StringBuilder("var x = 0 in 0 to 1; ");
            for (int i = 0; i < 3; i++) {
                text.append("do c").append(i).append(" when x = 0 go ").append(order[i])
                        .append(" set x = 1 also go ").append(100 - order[i]).append("; ");
            }
            MarkovBench three = Tape.compiled(text + "goal x = 1;");
            long low = 0;
            long high = 0;
            for (int steps = 0; steps <= 30; steps++) {
                Check.same("the least", low, three.reach(steps, true));
                Check.same("the greatest", high, three.reach(steps, false));
                low = (10 * 1000000 + 90 * low) / 100;
                high = (30 * 1000000 + 70 * high) / 100;
            }
        }
        // Of each state and step its own: once to a dead end, or again.
        MarkovBench each = Tape.compiled("var x = 0 in 0 to 2; do a when x = 0 go 50 set x = 1 also go 50; "
                + "do b when x = 0 go 60 set x = 1 also go 40 set x = 2; do c when x = 2 go 100; "
                + "goal x = 1;");
        int[] best = {0, 600000, 800000, 900000};
        for (int steps = 0; steps < 4; steps++) {
            Check.same("the greatest with " + steps, best[steps], each.reach(steps, false));
        }
        Check.same("the least with 1", 500000, each.reach(1, true));
        Check.same("the least with 2", 600000, each.reach(2, true));
        Sentences.of("Promise 25", "Throws `IllegalArgumentException` if steps is not 0 to 30");
        for (int steps : new int[] {-1, 31, Integer.MIN_VALUE, Integer.MAX_VALUE}) {
            for (boolean isLeast : new boolean[] {true, false}) {
                Benches.noArgument("reach " + steps, b -> b.reach(steps, isLeast));
                Benches.noArgumentWithoutProgram("reach " + steps, b -> b.reach(steps, isLeast));
            }
        }
        Sentences.of("Promise 25", "Throws `IllegalStateException` if there is no program");
        for (int steps : new int[] {0, 1, 30}) {
            Benches.noStateWithoutProgram("least " + steps, b -> b.reach(steps, true));
            Benches.noStateWithoutProgram("greatest " + steps, b -> b.reach(steps, false));
        }
    }

    private static void seed() {
        long[] numbers = {0, 1, -1, Long.MIN_VALUE, Long.MAX_VALUE, 1L << 32, 1L << 31, -(1L << 31)};
        Sentences.of("Promise 26", "`long seed(long z)`: Sets z.");
        MarkovBench bench = Tape.compiled(DICE);
        bench.solve(1);
        for (long z : numbers) {
            bench.seed(z);
            bench.play(0);
            Check.same("a throw from " + z, next(z), bench.seed(0));
        }
        Sentences.plain("Promise 26", "- `z`: the number");
        Sentences.of("Promise 26", "Returns z before.");
        MarkovBench fresh = new MarkovBench();
        long before = 0;
        for (long z : numbers) {
            Check.same("before " + z, before, fresh.seed(z));
            before = z;
        }
        Tape.compile(fresh, X + A);
        Check.same("compile leaves it", before, fresh.seed(7));
        fresh.solve(3);
        fresh.drop(0);
        fresh.reach(3, true);
        Check.same("so do calls that do not play", 7, fresh.seed(8));
        Tape.compile(fresh, "$");
        Check.same("and a wrong program", 8, fresh.seed(9));
    }

    private static void play() {
        Sentences.of("Promise 27", "`int play(int strategy) throws IndexOutOfBoundsException`: Plays a "
                + "strategy from state 0, with all its steps.");
        MarkovBench line = Tape.compiled("var x = 0 in 0 to 40; do a when x < 40 go 100 set x = x + 1;");
        for (int steps : new int[] {1, 30, 7}) {
            line.solve(steps);
        }
        int[] want = {1, 30, 7};
        for (int again = 0; again < 2; again++) {
            for (int strategy = 0; strategy < 3; strategy++) {
                Check.same("with all its steps", want[strategy], line.play(strategy));
                Check.same("which are counted", want[strategy], line.played(0));
            }
        }
        Sentences.plain("Promise 27", "- `strategy`: the strategy");
        Sentences.of("Promise 27", "Returns the state in which the play ends.");
        MarkovBench most = Tape.compiled("var x = 0 in 0 to 99; do far when x = 0 go 100 set x = 1; "
                + "do a when x > 0 and x < 99 go 100 set x = x + 1;");
        Check.same("the last of 31", 30, most.play(most.solve(30)));
        Check.same("the first one, where nothing is to be done", 0, at().play(0));
        // By 9 a step it is in the last state long before the 30th one.
        MarkovBench last = Tape.compiled("var x = 0 in 0 to 99; do up when 1 go 100 set x = min(99, x + 9); "
                + "do one when x < 99 go 100 set x = x + 1;");
        Check.same("100 states", 100, last.count(3));
        Check.same("the greatest value", 99, last.value(last.play(last.solve(30)), 0));
        Sentences.of("Promise 27", "Throws `IndexOutOfBoundsException` if there is no such strategy");
        for (int odd : FAR) {
            Benches.noIndex("strategy " + odd, b -> b.play(odd));
        }
        Benches.noIndex("strategy 2 of 2", b -> b.play(2));
        Benches.refused("strategy 12 of 12", IndexOutOfBoundsException.class, b -> b.play(12),
                Benches::crowded);
    }

    private static MarkovBench at() {
        MarkovBench bench = Tape.compiled(X + "gain g = 5; do a when 1 go 100; goal 1;");
        bench.solve(30);
        return bench;
    }

    private static void played() {
        Sentences.of("Promise 28", "`long played(int what) throws IndexOutOfBoundsException`: - `what`: 0 "
                + "how many steps the latest play had, 1 to 3 the sum of the gain 0 to 2 over its steps (0 "
                + "if there is no such gain)");
        String[] gains = {"", "gain f = 2; ", "gain f = 2; gain g = -3; ",
            "gain f = 2; gain g = -3; gain h = 999999 * 999999; "};
        long[] once = {2, -3, 999999L * 999999L};
        for (int there = 0; there <= 3; there++) {
            MarkovBench bench = Tape.compiled(X + A + gains[there]);
            for (int steps : new int[] {1, 30}) {
                bench.play(bench.solve(steps));
                Check.same("steps", steps, bench.played(0));
                for (int gain = 0; gain < 3; gain++) {
                    long want = gain < there ? steps * once[gain] : 0;
                    Check.same("gain " + gain + " of " + there, want, bench.played(gain + 1));
                }
            }
        }
        MarkovBench wide = Tape.compiled(X + A + "gain g = " + BIG + "; gain h = -(" + BIG + ");");
        // One of them is 2 to the power of 62.
        long[] sums = {1L << 62, Long.MIN_VALUE, 3L << 62, 0, 1L << 62};
        for (int steps = 1; steps <= 5; steps++) {
            wide.play(wide.solve(steps));
            Check.same("it wraps around", sums[steps - 1], wide.played(1));
            Check.same("and below 0", -sums[steps - 1], wide.played(2));
        }
        MarkovBench per = Tape.compiled(Benches.TWO);
        per.weigh(0, 1);
        per.solve(2);
        per.weigh(0, 0);
        per.weigh(1, 1);
        per.solve(1);
        per.play(0);
        Check.same("by fast and on", 6, per.played(1));
        Check.same("not per slow", 0, per.played(2));
        per.play(1);
        Check.same("the latest one alone", 1, per.played(0));
        Check.same("by slow", 3, per.played(1));
        Check.same("per slow", 5, per.played(2));
        MarkovBench none = at();
        none.play(0);
        Check.same("no steps", 0, none.played(0));
        Check.same("no gain", 0, none.played(1));
        Sentences.of("Promise 28", "Returns this; 0 if there was no play since the program was compiled.");
        for (int error = 0; error <= 1; error++) {
            MarkovBench bench = Benches.ready();
            Check.same("a play", true, bench.played(0) > 0 && bench.played(1) > 0);
            bench.drop(1);
            bench.drop(0);
            bench.solve(1);
            Check.same("which other strategies leave", true, bench.played(0) > 0);
            bench.trim(0);
            Tape.compile(bench, error == 0 ? Benches.TWO : "goal 1;");
            for (int what = 0; what <= 3; what++) {
                Check.same("none since", 0, bench.played(what));
            }
        }
        for (int what = 0; what <= 3; what++) {
            Check.same("none at all", 0, new MarkovBench().played(what));
            Check.same("none by a program", 0, Tape.compiled(Benches.TWO).played(what));
        }
        Sentences.of("Promise 28", "Throws `IndexOutOfBoundsException` if what is not 0 to 3");
        for (int what : new int[] {-1, 4, 5, Integer.MIN_VALUE, Integer.MAX_VALUE}) {
            Benches.noIndex("played " + what, b -> b.played(what));
            Benches.noIndexWithoutProgram("played " + what, b -> b.played(what));
        }
    }

    private static void average() {
        Sentences.plain("Promise 29", "`double average(int strategy, int gain, int plays) throws "
                + "IndexOutOfBoundsException, IllegalArgumentException`: - `strategy`: a strategy");
        Sentences.plain("Promise 29", "- `gain`: a gain");
        Sentences.of("Promise 29", "- `plays`: how many plays");
        MarkovBench bench = Tape.compiled(DICE);
        bench.solve(3);
        for (int plays = 1; plays <= 20; plays++) {
            bench.seed(plays);
            bench.average(0, 0, plays);
            long z = plays;
            for (int i = 0; i < 3 * plays; i++) {
                z = next(z);
            }
            Check.same("throws of " + plays, z, bench.seed(0));
        }
        Sentences.of("Promise 29", "Returns the mean, over so many plays one after the other (the last of "
                + "which is the latest play then), of the sum of this gain.");
        MarkovBench twin = Tape.compiled(DICE);
        twin.solve(3);
        for (int plays = 1; plays <= 20; plays++) {
            for (int gain = 0; gain < 3; gain++) {
                bench.seed(plays);
                twin.seed(plays);
                long sum = 0;
                for (int i = 0; i < plays; i++) {
                    twin.play(0);
                    sum += twin.played(gain + 1);
                }
                Check.same("of " + plays, (double) sum / plays, bench.average(0, gain, plays));
                for (int what = 0; what <= 3; what++) {
                    Check.same("the latest play", twin.played(what), bench.played(what));
                }
                if (gain == 2) {
                    Check.same("each has 3", 3.0, bench.average(0, 2, plays));
                }
            }
        }
        MarkovBench none = at();
        none.seed(5);
        Check.same("of no steps", 0.0, none.average(0, 0, 20));
        Check.same("without a throw", 5, none.seed(5));
        // A third, which no double is, and sums that wrap around.
        MarkovBench third = Tape.compiled("var x = 0 in 0 to 1; gain g = x; gain h = -x; do a when 1 go 50 "
                + "set x = 1 also go 50 set x = 0;");
        third.solve(2);
        for (long z = 0; z < 20; z++) {
            third.seed(z);
            double mean = third.average(0, 0, 3);
            third.seed(z);
            Check.same("below 0", 0 - mean, third.average(0, 1, 3));
            Check.same("thirds", true, mean == 0.0 || mean == 1.0 / 3 || mean == 2.0 / 3 || mean == 1.0);
        }
        MarkovBench wide = Tape.compiled(X + A + "gain g = " + BIG + "; gain h = -(" + BIG + ");");
        wide.solve(1);
        Check.same("one of the great ones", 0x1p62, wide.average(0, 0, 1));
        Check.same("two wrap around", -0x1p62, wide.average(0, 0, 2));
        Check.same("so do two below 0", -0x1p62, wide.average(0, 1, 2));
        Check.same("four are 0", 0.0, wide.average(0, 0, 4));
        Sentences.of("Promise 29", "Throws `IndexOutOfBoundsException` if there is no such strategy or gain");
        for (int odd : FAR) {
            Benches.noIndex("strategy " + odd, b -> b.average(odd, 0, 1));
            Benches.noIndex("strategy and plays " + odd, b -> b.average(odd, 0, 0));
            Benches.noIndex("gain " + odd, b -> b.average(0, odd, 1));
            Benches.noIndex("gain and plays " + odd, b -> b.average(0, odd, 21));
        }
        Benches.noIndex("strategy 2 of 2", b -> b.average(2, 0, 1));
        Benches.noIndex("gain 2 of 2", b -> b.average(0, 2, 1));
        Check.fails("gain 3 of 3", IndexOutOfBoundsException.class, () -> bench.average(0, 3, 1));
        Sentences.of("Promise 29", "Throws `IllegalArgumentException` if plays is not 1 to 20");
        for (int plays : new int[] {0, -1, 21, 22, Integer.MIN_VALUE, Integer.MAX_VALUE}) {
            Benches.noArgument("plays " + plays, b -> b.average(0, 0, plays));
            Benches.noArgument("plays " + plays, b -> b.average(1, 1, plays));
        }
    }

    private static long checksum(List<Long> row) {
        BigInteger d = BigInteger.valueOf(331);
        for (long x : row) {
            d = d.multiply(BigInteger.valueOf(31)).add(BigInteger.valueOf(x));
        }
        return d.longValue();
    }

    /** The checksum by what the other calls tell; weights can't be asked, so that they are told. */
    private static long told(MarkovBench bench, long z, int[] weights, int... steps) {
        List<Long> row = new ArrayList<>();
        for (int what = 0; what <= 5; what++) {
            row.add((long) bench.count(what));
        }
        row.add(z);
        for (int weight : weights) {
            row.add((long) weight);
        }
        for (int state = 0; state < bench.count(3); state++) {
            for (int variable = 0; variable < bench.count(0); variable++) {
                row.add((long) bench.value(state, variable));
            }
            row.add((long) bench.choices(state));
        }
        for (int strategy = 0; strategy < steps.length; strategy++) {
            row.add((long) steps[strategy]);
            for (int gain = 0; gain < bench.count(1); gain++) {
                row.add(bench.brings(strategy, gain));
            }
            row.add((long) bench.chance(strategy));
            for (int state = 0; state < bench.count(3); state++) {
                row.add((long) bench.takes(strategy, state, steps[strategy]));
            }
        }
        return checksum(row);
    }

    private static void digest() {
        Sentences.of("Promise 30", "`long digest()`: Computes a checksum. A number d starts with 331; for "
                + "each of the following numbers x, d becomes d * 31 + x, which wraps around as a 64-bit "
                + "integer: what count() tells, in its order; z; the weights of all gains; for each state "
                + "the values of its variables and what choices() tells; for each strategy its number of "
                + "steps, what it brings of each gain, its chance, and the choice that it takes in each "
                + "state with all its steps left.");
        Check.same("of a new one", 331L * 31 * 31 * 31 * 31 * 31 * 31 * 31, new MarkovBench().digest());
        MarkovBench z = new MarkovBench();
        for (long one : new long[] {1, -1, Long.MIN_VALUE, Long.MAX_VALUE}) {
            z.seed(one);
            Check.same("with " + one, told(z, one, new int[0]), z.digest());
        }
        MarkovBench fed = Benches.fed();
        Check.same("with a tape alone", checksum(List.of(0L, 0L, 0L, 0L, 0L, 6L, -5L)), fed.digest());
        MarkovBench bare = Tape.compiled(X + A);
        Check.same("without gains", checksum(List.of(1L, 0L, 1L, 1L, 0L, 0L, 0L, 0L, 1L)), bare.digest());
        bare.solve(30);
        Check.same("and a strategy", checksum(List.of(1L, 0L, 1L, 1L, 1L, 0L, 0L, 0L, 1L, 30L, 0L, 0L)),
                bare.digest());
        MarkovBench two = Benches.ready();
        long thrown = two.seed(0);
        two.seed(thrown);
        Check.same("with two strategies", told(two, thrown, new int[] {3, 9}, 2, 3), two.digest());
        Check.same("word by word", checksum(List.of(1L, 2L, 3L, 3L, 2L, 7L, thrown, 3L, 9L, 0L, 2L, 1L, 1L,
                2L, -1L, 2L, 60000L, 0L, 1000000L, 0L, 0L, -1L, 3L, 39000L, 50000L, 1000000L, 1L, 0L, -1L)),
                two.digest());
        Check.same("with all its steps left", told(risky(), 0, new int[] {1, 1}, 2), risky().digest());
        two.weigh(0, -9);
        two.drop(0);
        Check.same("with one of them", told(two, thrown, new int[] {-9, 9}, 3), two.digest());
        two.trim(0);
        Tape.compile(two, Benches.TWO);
        Check.same("compiled again", told(two, thrown, new int[2]), two.digest());
        Tape.compile(two, "$");
        Check.same("without a program", checksum(List.of(0L, 0L, 0L, 0L, 0L, 0L, thrown)), two.digest());
        MarkovBench most = TapeEdges.greatest();
        most.drop(11);
        most.drop(10);
        most.drop(9);
        most.weigh(0, 9);
        most.weigh(1, -9);
        most.weigh(2, 1);
        most.solve(1);
        int[] steps = {30, 30, 30, 30, 30, 30, 30, 30, 30, 1};
        Sentences.of("Promise 30", "Returns d.");
        Check.same("of many states", toldOfMany(most, new int[] {9, -9, 1}, steps), most.digest());
        Check.same("again", most.digest(), most.digest());
    }

    /** As told, but with what is known of the states, so that fewer calls are needed. */
    private static long toldOfMany(MarkovBench bench, int[] weights, int[] steps) {
        List<Long> row = new ArrayList<>(List.of(6L, 3L, 16L, 100L, (long) steps.length, 1500L, 0L));
        for (int weight : weights) {
            row.add((long) weight);
        }
        for (long state = 0; state < 100; state++) {
            row.addAll(List.of(state, 0L, 0L, 0L, 0L, state - 99, state < 99 ? 16L : 15L));
        }
        for (int strategy = 0; strategy < steps.length; strategy++) {
            row.add((long) steps[strategy]);
            for (int gain = 0; gain < 3; gain++) {
                row.add(bench.brings(strategy, gain));
            }
            row.add(0L);
            for (int state = 0; state < 100; state++) {
                row.add(strategy < steps.length - 1 ? 0L : (long) bench.takes(strategy, state, 1));
            }
        }
        return checksum(row);
    }
}
