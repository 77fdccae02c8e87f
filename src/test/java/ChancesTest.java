import java.math.BigInteger;
import java.util.ArrayList;
import java.util.List;

/** Promises 25 to 30: reach, seed, play, played, average, digest. */
public final class ChancesTest {
    private static final String TWO = "var x = 0 in 0 to 2; gain a = 3; gain b per slow = 5; "
            + "do fast when x = 0 go 100 set x = 1; "
            + "do slow when x = 0 go 30 set x = 1 also go 70 set x = 2; "
            + "do on when x = 1 go 100 set x = 2; goal x = 2;";
    private static final String CUT = "var x = 0 in 0 to 1; gain plus = 1; "
            + "do s when x = 0 go 33 also go 67 set x = 1; goal x = 1;";
    // Where a play stands tells what was thrown: x is the branch of the latest step.
    private static final String DICE = "var x = 0 in 0 to 3; gain sum = x; gain minus = -x; "
            + "do roll when 1 go 10 set x = 0 also go 20 set x = 1 also go 30 set x = 2 "
            + "also go 40 set x = 3;";

    public static void main(String[] args) {
        promise25Reach();
        promise26Seed();
        promise27Play();
        promise28Played();
        promise29Average();
        promise30Digest();
        Check.end();
    }

    private static void promise25Reach() {
        MarkovBench bench = Tape.compiled(TWO);
        Check.same("greatest in 0", 0, bench.reach(0, false));
        Check.same("least in 0", 0, bench.reach(0, true));
        Check.same("greatest in 1", 700000, bench.reach(1, false));
        Check.same("least in 1", 0, bench.reach(1, true));
        Check.same("greatest in 2", 1000000, bench.reach(2, false));
        Check.same("least in 2", 1000000, bench.reach(2, true));
        Check.same("greatest in 30", 1000000, bench.reach(30, false));
        Check.noArgument(bench, "31", () -> bench.reach(31, false));
        Check.noArgument(bench, "-1", () -> bench.reach(-1, true));
        MarkovBench cut = Tape.compiled(CUT);
        long[] want = {0, 670000, 891100, 964063, 988140, 996086};
        for (int steps = 0; steps < want.length; steps++) {
            Check.same("cut, greatest " + steps, want[steps], cut.reach(steps, false));
            Check.same("cut, least " + steps, want[steps], cut.reach(steps, true));
        }
        MarkovBench at = Tape.compiled("var x = 0 in 0 to 1; do a when 1 go 100; goal 1;");
        Check.same("in a goal", 1000000, at.reach(0, true));
        Check.same("in a goal", 1000000, at.reach(30, false));
        MarkovBench stuck = Tape.compiled("var x = 0 in 0 to 1; do a when 0 go 100; goal x;");
        Check.same("without choices", 0, stuck.reach(30, false));
        MarkovBench each = Tape.compiled("var x = 0 in 0 to 2; do a when x = 0 go 50 set x = 1 "
                + "also go 50; do b when x = 0 go 100 set x = 2; do c when x = 2 go 100; goal x = 1;");
        Check.same("the greatest one in each step", 875000, each.reach(3, false));
        Check.same("the least one leads away", 0, each.reach(3, true));
        MarkovBench none = new MarkovBench();
        Check.noState(none, "without a program", () -> none.reach(0, false));
        Check.noArgument(none, "31 without a program", () -> none.reach(31, false));
    }

    private static void promise26Seed() {
        MarkovBench bench = Tape.compiled(DICE);
        Check.same("at first", 0, bench.seed(Long.MIN_VALUE));
        Check.same("what was set", Long.MIN_VALUE, bench.seed(5));
        bench.solve(1);
        bench.play(0);
        long once = next(5);
        Check.same("behind one throw", once, bench.seed(5));
        bench.average(0, 0, 3);
        Check.same("behind three", next(next(once)), bench.seed(0));
        Tape.compile(bench, "x");
        Check.same("compile leaves it", 0, bench.seed(1));
        Check.same("and does so again", 1, bench.seed(0));
    }

    private static final BigInteger WORD = BigInteger.ONE.shiftLeft(64);

    private static long next(long z) {
        return BigInteger.valueOf(z).multiply(new BigInteger("6364136223846793005"))
                .add(new BigInteger("1442695040888963407")).mod(WORD).longValue();
    }

    private static int thrown(long z) {
        return BigInteger.valueOf(z).mod(WORD).shiftRight(33).mod(BigInteger.valueOf(100)).intValue();
    }

    private static void promise27Play() {
        MarkovBench bench = Tape.compiled(DICE);
        bench.solve(1);
        int[] ends = {10, 30, 60, 100};
        boolean[] seen = new boolean[100];
        long z = -77;
        bench.seed(z);
        for (int i = 0; i < 450; i++) {
            z = next(z);
            int at = 0;
            while (thrown(z) >= ends[at]) {
                at++;
            }
            seen[thrown(z)] = true;
            int state = bench.play(0);
            Check.same("play " + i + " with " + thrown(z), at, bench.value(state, 0));
        }
        int edges = 0;
        for (int edge : new int[] {0, 9, 10, 29, 30, 59, 60, 99}) {
            edges += seen[edge] ? 1 : 0;
        }
        Check.same("edges that were thrown", true, edges >= 6);
        Check.noIndex(bench, "strategy 1", () -> bench.play(1));
        Check.noIndex(bench, "strategy -1", () -> bench.play(-1));
        MarkovBench two = Tape.compiled(TWO);
        two.weigh(0, 1);
        two.solve(1);
        two.solve(3);
        Check.same("no steps are left", 1, two.play(0));
        Check.same("a goal ends it", 2, two.play(1));
        Check.same("two steps, though three were left", 2, two.played(0));
        Check.same("a throw for each step, also with one branch", next(next(next(0))), two.seed(0));
        // It takes the choices for the steps that are left.
        MarkovBench late = Tape.compiled("var x = 0 in 0 to 3; gain g = 10 * (x = 2); "
                + "gain now per quick = 5; do quick when x = 0 go 100 set x = 3; "
                + "do slow when x < 3 go 100 set x = x + 1;");
        late.weigh(0, 1);
        late.weigh(1, 1);
        late.solve(2);
        late.solve(3);
        Check.same("quick with 2", 3, late.value(late.play(0), 0));
        Check.same("its steps", 1, late.played(0));
        Check.same("slow with 3", 3, late.value(late.play(1), 0));
        Check.same("its steps", 3, late.played(0));
    }

    private static void promise28Played() {
        MarkovBench bench = Tape.compiled(TWO);
        for (int what = 0; what < 4; what++) {
            Check.same("no play yet: " + what, 0, bench.played(what));
        }
        bench.weigh(1, 1);
        bench.solve(30);
        bench.weigh(0, 9);
        bench.weigh(1, 0);
        bench.solve(2);
        bench.play(1);
        long[] want = {2, 6, 0, 0};
        for (int what = 0; what < 4; what++) {
            Check.same("fast and on: " + what, want[what], bench.played(what));
        }
        bench.play(0);
        Check.same("b by slow", 5, bench.played(2));
        Check.same("3 a step", 3 * bench.played(0), bench.played(1));
        bench.drop(0);
        Check.same("drop leaves it", 5, bench.played(2));
        Check.noIndex(bench, "what 4", () -> bench.played(4));
        Check.noIndex(bench, "what -1", () -> bench.played(-1));
        Tape.compile(bench, TWO);
        Check.same("compile ends it", 0, bench.played(2));
        MarkovBench stuck = Tape.compiled("var x = 0 in 0 to 1; gain g = 1; do a when 0 go 100;");
        stuck.solve(9);
        Check.same("no step at all", 0, stuck.play(0));
        Check.same("no steps", 0, stuck.played(0));
        Check.same("no gains", 0, stuck.played(1));
        MarkovBench dice = Tape.compiled(DICE);
        dice.solve(30);
        dice.play(0);
        Check.same("30 steps", 30, dice.played(0));
        Check.same("a sum", true, dice.played(1) > 0);
        Check.same("the same below 0", -dice.played(1), dice.played(2));
        Check.same("no third gain", 0, dice.played(3));
    }

    private static void promise29Average() {
        MarkovBench bench = Tape.compiled(DICE);
        MarkovBench twin = Tape.compiled(DICE);
        bench.solve(7);
        twin.solve(7);
        for (int plays = 1; plays <= 20; plays++) {
            long sum = 0;
            for (int i = 0; i < plays; i++) {
                twin.play(0);
                sum += twin.played(1);
            }
            Check.same("average of " + plays, (double) sum / plays, bench.average(0, 0, plays));
            Check.same("the last play is the latest", twin.played(1), bench.played(1));
            Check.same("its steps", 7, bench.played(0));
        }
        bench.seed(3);
        double up = bench.average(0, 0, 20);
        bench.seed(3);
        Check.same("below 0", -up, bench.average(0, 1, 20));
        Check.noIndex(bench, "strategy 1", () -> bench.average(1, 0, 0));
        Check.noIndex(bench, "strategy -1", () -> bench.average(-1, 0, 1));
        Check.noIndex(bench, "gain 2", () -> bench.average(0, 2, 21));
        Check.noIndex(bench, "gain -1", () -> bench.average(0, -1, 1));
        Check.noArgument(bench, "0 plays", () -> bench.average(0, 0, 0));
        Check.noArgument(bench, "21 plays", () -> bench.average(0, 0, 21));
        Check.noArgument(bench, "-1 plays", () -> bench.average(0, 0, -1));
    }

    private static void promise30Digest() {
        MarkovBench bench = Tape.compiled(TWO);
        List<Long> row = new ArrayList<>(List.of(2L - 1, 2L, 3L, 3L, 0L, 0L, 0L, 0L, 0L));
        // The values of the variables and what choices tells, state by state.
        row.addAll(List.of(0L, 2L, 1L, 1L, 2L, -1L));
        Check.same("without strategies", reckoned(row), bench.digest());
        bench.weigh(0, 1);
        bench.weigh(1, -4);
        bench.seed(-9);
        bench.solve(2);
        Tape.put(bench, "12345");
        row.set(4, 1L);
        row.set(5, 5L);
        row.set(6, -9L);
        row.set(7, 1L);
        row.set(8, -4L);
        row.addAll(List.of(2L, 60000L, 0L, 1000000L, 0L, 0L, -1L));
        Check.same("with one strategy", reckoned(row), bench.digest());
        Check.same("again", reckoned(row), bench.digest());
        bench.weigh(0, 0);
        bench.weigh(1, 9);
        bench.solve(1);
        row.set(4, 2L);
        row.set(7, 0L);
        row.set(8, 9L);
        row.addAll(List.of(1L, 30000L, 50000L, 700000L, 1L, 0L, -1L));
        Check.same("with two strategies", reckoned(row), bench.digest());
        Check.same("of a new object", 9106675270741L, new MarkovBench().digest());
    }

    private static long reckoned(List<Long> row) {
        BigInteger d = BigInteger.valueOf(331);
        for (long x : row) {
            d = d.multiply(BigInteger.valueOf(31)).add(BigInteger.valueOf(x));
        }
        return d.longValue();
    }
}
