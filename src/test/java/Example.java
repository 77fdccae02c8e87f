/** From a program to a play: README.md shows this file, and what it prints. */
public final class Example {
    // Over a brook by stones: walk is sure and slow, jump is fast, takes toil, and can fail.
    private static final String PROGRAM = """
            var x = 0 in 0 to 3;
            gain time = -1;
            gain toil per jump = -1;
            do walk when x < 3 go 100 set x = x + 1;
            do jump when x < 3 go 80 set x = min(3, x + 2) also go 20;
            goal x = 3;
            """;

    /** Four bytes a number, the highest one first; what the last call feeds too much is cut off. */
    private static void put(MarkovBench bench, String text) {
        int before = bench.count(5);
        for (int i = 0; i < text.length(); i += 20) {
            int[] numbers = new int[5];
            for (int j = 0; j < 20; j++) {
                int c = i + j < text.length() ? text.charAt(i + j) : ' ';
                numbers[j / 4] = numbers[j / 4] << 8 | c;
            }
            bench.feed(numbers[0], numbers[1], numbers[2], numbers[3], numbers[4]);
        }
        bench.trim(before + text.length());
    }

    private static void tell(String call, Object answer) {
        System.out.println(call + " = " + answer);
    }

    public static void main(String[] args) {
        MarkovBench bench = new MarkovBench();
        put(bench, PROGRAM);
        tell("compile()", bench.compile());

        tell("states: count(3)", bench.count(3));
        tell("x in state 2: value(2, 0)", bench.value(2, 0));
        tell("choices(0)", bench.choices(0));
        tell("the goal: choices(3)", bench.choices(3));
        tell("the second choice is jump: choice(0, 1, 0)", bench.choice(0, 1, 0));
        tell("its branches: choice(0, 1, 1)", bench.choice(0, 1, 1));
        tell("its toil: gain(0, 1, 1)", bench.gain(0, 1, 1));
        tell("the chance of its first branch: branch(0, 1, 0, true)", bench.branch(0, 1, 0, true));
        tell("where it leads: branch(0, 1, 0, false)", bench.branch(0, 1, 0, false));

        put(bench, "10 * x + 1");
        tell("test(2)", bench.test(2));
        tell("result()", bench.result());
        put(bench, "10 * y + 1");
        tell("y is no variable: test(2)", bench.test(2));
        tell("where it stands: errorAt()", bench.errorAt());

        tell("the weight of time before: weigh(0, 1)", bench.weigh(0, 1));
        tell("a strategy for time: solve(5)", bench.solve(5));
        tell("it walks at first: takes(0, 0, 5)", bench.takes(0, 0, 5));
        tell("then it jumps: takes(0, 1, 4)", bench.takes(0, 1, 4));
        tell("worth(0, 0, 5)", bench.worth(0, 0, 5));
        tell("its time: brings(0, 0)", bench.brings(0, 0));
        tell("its toil: brings(0, 1)", bench.brings(0, 1));
        tell("its chance of the goal: chance(0)", bench.chance(0));
        tell("the weight of toil before: weigh(1, -1)", bench.weigh(1, -1));
        tell("a strategy for time and toil: solve(5)", bench.solve(5));
        tell("another one is better: isWorthHaving(1)", bench.isWorthHaving(1));
        tell("how many are left: drop(1)", bench.drop(1));
        tell("kept of three that are made: sweep(0, 1, 2, 5)", bench.sweep(0, 1, 2, 5));
        tell("its time: brings(1, 0)", bench.brings(1, 0));
        tell("its toil: brings(1, 1)", bench.brings(1, 1));
        tell("none is better: isWorthHaving(1)", bench.isWorthHaving(1));
        tell("the time of half and half: mix(0, 1, 50, 0)", bench.mix(0, 1, 50, 0));
        tell("40 hundredths of 0, the rest of 1: bestMix(0, 1, -5000)", bench.bestMix(0, 1, -5000));

        tell("the greatest chance in 2 steps: reach(2, false)", bench.reach(2, false));
        tell("the least one: reach(2, true)", bench.reach(2, true));
        tell("z before: seed(7)", bench.seed(7));
        tell("where it ends: play(0)", bench.play(0));
        tell("its steps: played(0)", bench.played(0));
        tell("its toil: played(2)", bench.played(2));
        tell("mean toil of 20 plays: average(0, 1, 20)", bench.average(0, 1, 20));
        tell("digest()", bench.digest());
    }
}
