/**
 * All that a bench answers: what can be asked without a change, then what calls that change it
 * answer from there on. The bench is of no use behind it.
 */
final class Story {
    private final MarkovBench bench;
    private final StringBuilder all = new StringBuilder();
    private int calls = 0;

    private Story(MarkovBench bench) {
        this.bench = bench;
    }

    static String of(MarkovBench bench) {
        Story story = new Story(bench);
        story.tellProgram();
        story.tellStates();
        story.tellStrategies();
        story.tellChances();
        story.tellWhatFollows();
        // An object is used for 512 calls: what made it needs some of them.
        Check.same("calls are left for what made the bench", true, story.calls <= 430);
        return story.all.toString();
    }

    /** The first lines that differ; nothing if the stories are the same. */
    static String difference(String one, String other) {
        String[] lines = one.split("\n");
        String[] others = other.split("\n");
        for (int i = 0; i < Math.min(lines.length, others.length); i++) {
            if (!lines[i].equals(others[i])) {
                return lines[i] + " / " + others[i];
            }
        }
        return lines.length == others.length ? "" : lines.length + " / " + others.length + " lines";
    }

    private Object ask(String name, Check.Call call) {
        calls++;
        Object got;
        try {
            got = call.get();
        } catch (RuntimeException e) {
            got = e.getClass().getName();
        }
        all.append(name).append(" = ").append(got).append('\n');
        return got;
    }

    private void tellProgram() {
        ask("errorAt", bench::errorAt);
        ask("result", bench::result);
        for (int what = 0; what < 6; what++) {
            int which = what;
            ask("count " + what, () -> bench.count(which));
        }
        ask("digest", bench::digest);
    }

    private void tellStates() {
        for (int state = 0; state < bench.count(3); state++) {
            int s = state;
            for (int variable = 0; variable < bench.count(0); variable++) {
                int v = variable;
                ask("value " + s + ", " + v, () -> bench.value(s, v));
            }
            int choices = ((Number) ask("choices " + s, () -> bench.choices(s))).intValue();
            for (int choice = 0; choice < choices; choice++) {
                tellChoice(s, choice);
            }
        }
    }

    private void tellChoice(int s, int c) {
        String where = s + ", " + c;
        ask("command " + where, () -> bench.choice(s, c, 0));
        int branches = ((Number) ask("branches " + where, () -> bench.choice(s, c, 1))).intValue();
        for (int gain = 0; gain < bench.count(1); gain++) {
            int g = gain;
            ask("gain " + where + ", " + g, () -> bench.gain(s, c, g));
        }
        for (int branch = 0; branch < branches; branch++) {
            int b = branch;
            ask("chance " + where + ", " + b, () -> bench.branch(s, c, b, true));
            ask("target " + where + ", " + b, () -> bench.branch(s, c, b, false));
        }
    }

    private void tellStrategies() {
        for (int strategy = 0; strategy < bench.count(4); strategy++) {
            int one = strategy;
            for (int gain = 0; gain < bench.count(1); gain++) {
                int g = gain;
                ask("brings " + one + ", " + g, () -> bench.brings(one, g));
            }
            ask("chance " + one, () -> bench.chance(one));
            ask("isWorthHaving " + one, () -> bench.isWorthHaving(one));
            for (int state = 0; state < bench.count(3); state++) {
                tellSteps(one, state);
            }
        }
        ask("bestMix", () -> bench.bestMix(0, 1, 20000));
        ask("mix", () -> bench.mix(0, 1, 37, 0));
    }

    private void tellSteps(int one, int s) {
        boolean isThere = true;
        for (int left = 0; left <= 30 && isThere; left++) {
            int n = left;
            Object worth = ask("worth " + one + ", " + s + ", " + n, () -> bench.worth(one, s, n));
            isThere = worth instanceof Long;
            if (isThere) {
                ask("takes " + one + ", " + s + ", " + n, () -> bench.takes(one, s, n));
            }
        }
    }

    private void tellChances() {
        ask("reach", () -> bench.reach(1, true));
        ask("reach", () -> bench.reach(3, false));
        for (int what = 0; what < 4; what++) {
            int which = what;
            ask("played " + what, () -> bench.played(which));
        }
    }

    /** Each of these calls changes something: the tape tells what is on it, the die what z is. */
    private void tellWhatFollows() {
        ask("test", () -> bench.test(0));
        ask("its error", bench::errorAt);
        ask("its result", bench::result);
        ask("play", () -> bench.play(0));
        ask("played", () -> bench.played(2));
        ask("average", () -> bench.average(1, 0, 3));
        ask("sweep", () -> bench.sweep(0, 1, 4, 2));
        ask("solve", () -> bench.solve(3));
        ask("drop", () -> bench.drop(0));
        ask("weigh", () -> bench.weigh(0, 1));
        ask("weigh", () -> bench.weigh(1, 1));
        ask("digest", bench::digest);
        ask("seed", () -> bench.seed(1));
        ask("feed", () -> bench.feed(0x31202020, 0x20202020, 0x20202020, 0x20202020, 0x20202020));
        ask("test of what is on the tape", () -> bench.test(0));
        ask("compile of nothing", bench::compile);
        ask("digest", bench::digest);
    }
}
