/** Promises 14 to 24: weigh, solve, takes, worth, brings, chance, isWorthHaving, sweep, and more. */
public final class StrategiesTest {
    // fast brings 3 of a and leads to state 1, where on brings 3 of a again; slow brings 3 of a and
    // 5 of b and leads to state 1 (30) or to the goal, state 2 (70).
    private static final String TWO = "var x = 0 in 0 to 2; gain a = 3; gain b per slow = 5; "
            + "do fast when x = 0 go 100 set x = 1; "
            + "do slow when x = 0 go 30 set x = 1 also go 70 set x = 2; "
            + "do on when x = 1 go 100 set x = 2; goal x = 2;";
    // What it brings has to be cut from the fourth step on.
    private static final String CUT = "var x = 0 in 0 to 1; gain plus = 1; gain minus = -1; "
            + "do s when x = 0 go 33 also go 67 set x = 1; goal x = 1;";
    // Three ways, of which only the last brings a third gain.
    private static final String THREE = "var x = 0 in 0 to 1; gain a = 0 - x + x; "
            + "gain b per two = 8; gain c per three = 2; do one when x = 0 go 100 set x = 1; "
            + "do two when x = 0 go 100 set x = 1; do three when x = 0 go 100 set x = 1;";

    public static void main(String[] args) {
        promise14Weigh();
        promise15Solve();
        promise16Takes();
        promise17Worth();
        manyStates();
        promise18Brings();
        promise19Chance();
        promise20IsWorthHaving();
        promise21Sweep();
        promise21SweepWithoutRoom();
        promise22Mix();
        promise23BestMix();
        promise24Drop();
        Check.end();
    }

    private static int solved(MarkovBench bench, int steps, int... weights) {
        for (int gain = 0; gain < weights.length; gain++) {
            bench.weigh(gain, weights[gain]);
        }
        return bench.solve(steps);
    }

    private static void promise14Weigh() {
        MarkovBench bench = Tape.compiled(TWO);
        Check.same("weigh first", 0, bench.weigh(0, 9));
        Check.same("weigh another", 0, bench.weigh(1, -9));
        Check.same("weigh again", 9, bench.weigh(0, 1));
        Check.same("weigh the other again", -9, bench.weigh(1, 0));
        Check.noIndex(bench, "gain 2", () -> bench.weigh(2, 0));
        Check.noIndex(bench, "gain -1", () -> bench.weigh(-1, 0));
        Check.noIndex(bench, "gain 2 by 10", () -> bench.weigh(2, 10));
        Check.noArgument(bench, "by 10", () -> bench.weigh(0, 10));
        Check.noArgument(bench, "by -10", () -> bench.weigh(0, -10));
        Check.same("weigh behind a refusal", 1, bench.weigh(0, 0));
    }

    private static void promise15Solve() {
        MarkovBench bench = Tape.compiled(TWO);
        Check.noArgument(bench, "0 steps", () -> bench.solve(0));
        Check.noArgument(bench, "31 steps", () -> bench.solve(31));
        Check.noArgument(bench, "-1 steps", () -> bench.solve(-1));
        Check.same("solve", 0, solved(bench, 2, 1, 0));
        Check.same("solve for others", 1, solved(bench, 2, 0, 1));
        Check.same("solve without weights", 2, solved(bench, 30, 0, 0));
        Check.same("each by its own weights", 60000, bench.worth(0, 0, 2));
        Check.same("each by its own weights", 50000, bench.worth(1, 0, 2));
        Check.same("each by its own weights", 0, bench.worth(2, 0, 2));
        for (int i = 3; i < 12; i++) {
            Check.same("solve " + i, i, bench.solve(1));
        }
        Check.noState(bench, "a 13th", () -> bench.solve(1));
        Check.noArgument(bench, "a 13th with 31 steps", () -> bench.solve(31));
        Check.same("strategies", 12, bench.count(4));
        bench.drop(3);
        Check.same("solve in the room of another", 11, solved(bench, 2, 1, 0));
        Check.same("what it is worth", 60000, bench.worth(11, 0, 2));
        MarkovBench none = new MarkovBench();
        Check.noArgument(none, "0 steps without a program", () -> none.solve(0));
        Check.noState(none, "without a program", () -> none.solve(1));
        MarkovBench plain = Tape.compiled("var x = 0 in 0 to 1; do a when 1 go 100;");
        Check.same("solve without gains", 0, plain.solve(30));
    }

    private static void promise16Takes() {
        MarkovBench bench = Tape.compiled(TWO);
        int forA = solved(bench, 2, 1, 0);
        int forB = solved(bench, 3, 0, 1);
        int forNone = solved(bench, 2, 0, 0);
        Check.same("both are the same with one step", 0, bench.takes(forA, 0, 1));
        Check.same("for a", 0, bench.takes(forA, 0, 2));
        Check.same("for b with one step", 1, bench.takes(forB, 0, 1));
        Check.same("for b", 1, bench.takes(forB, 0, 2));
        Check.same("for b with all steps", 1, bench.takes(forB, 0, 3));
        Check.same("the only one", 0, bench.takes(forB, 1, 3));
        Check.same("the first one for nothing", 0, bench.takes(forNone, 0, 2));
        Check.same("in a goal", -1, bench.takes(forA, 2, 1));
        Check.noArgument(bench, "0 left", () -> bench.takes(forA, 0, 0));
        Check.noArgument(bench, "3 left of 2", () -> bench.takes(forA, 0, 3));
        Check.noArgument(bench, "4 left of 3", () -> bench.takes(forB, 0, 4));
        Check.noArgument(bench, "-1 left", () -> bench.takes(forA, 2, -1));
        Check.noIndex(bench, "strategy 3", () -> bench.takes(3, 0, 0));
        Check.noIndex(bench, "strategy -1", () -> bench.takes(-1, 0, 1));
        Check.noIndex(bench, "state 3", () -> bench.takes(0, 3, 9));
        Check.noIndex(bench, "state -1", () -> bench.takes(0, -1, 1));
        // With few steps left it takes what pays at once, with many what pays later.
        MarkovBench late = Tape.compiled("var x = 0 in 0 to 3; gain g = (x = 0) + 10 * (x = 2); "
                + "gain now per quick = 5; do quick when x = 0 go 100 set x = 3; "
                + "do slow when x < 3 go 100 set x = x + 1;");
        int both = solved(late, 4, 1, 1);
        Check.same("1 left", 0, late.takes(both, 0, 1));
        Check.same("2 left", 0, late.takes(both, 0, 2));
        Check.same("3 left", 1, late.takes(both, 0, 3));
        Check.same("4 left", 1, late.takes(both, 0, 4));
        Check.same("without choices", -1, late.takes(both, 1, 4));
        int against = solved(late, 1, -1, -9);
        Check.same("the least is the greatest by weights below 0", 1, late.takes(against, 0, 1));
    }

    private static void promise17Worth() {
        MarkovBench bench = Tape.compiled(TWO);
        int forA = solved(bench, 2, 1, 0);
        int mixed = solved(bench, 2, -2, 9);
        bench.weigh(0, 7);
        Check.same("0 left", 0, bench.worth(forA, 0, 0));
        Check.same("1 left", 30000, bench.worth(forA, 0, 1));
        Check.same("2 left", 60000, bench.worth(forA, 0, 2));
        Check.same("in state 1", 30000, bench.worth(forA, 1, 2));
        Check.same("in a goal", 0, bench.worth(forA, 2, 2));
        Check.same("a sum of weights", 390000 - 18000, bench.worth(mixed, 0, 2));
        Check.noArgument(bench, "-1 left", () -> bench.worth(forA, 0, -1));
        Check.noArgument(bench, "3 left", () -> bench.worth(forA, 0, 3));
        Check.noIndex(bench, "strategy 2", () -> bench.worth(2, 0, -1));
        Check.noIndex(bench, "strategy -1", () -> bench.worth(-1, 0, 0));
        Check.noIndex(bench, "state 3", () -> bench.worth(0, 3, 3));
        Check.noIndex(bench, "state -1", () -> bench.worth(0, -1, 0));
        MarkovBench cut = Tape.compiled(CUT);
        int plus = solved(cut, 30, 1, 0);
        int minus = solved(cut, 30, 0, 1);
        long[] want = {0, 10000, 13300, 14389, 14748, 14866};
        for (int left = 0; left < want.length; left++) {
            Check.same("cut, " + left + " left", want[left], cut.worth(plus, 0, left));
            Check.same("cut towards 0, " + left + " left", -want[left], cut.worth(minus, 0, left));
        }
        MarkovBench wide = Tape.compiled("var x = 0 in 0 to 1; do a when 1 go 100; "
                + "gain g = 999999 * 999999 * 999999;");
        int most = solved(wide, 2, 9);
        long once = 10000L * (9 * (999999L * 999999L * 999999L));
        Check.same("it wraps around", once, wide.worth(most, 0, 1));
        Check.same("and so does the sum", once + 100 * once / 100, wide.worth(most, 0, 2));
    }

    private static void manyStates() {
        MarkovBench bench = Tape.compiled("var x = 0 in 0 to 99; gain a = x; gain b = 1; "
                + "gain c = -x; do up when x < 99 go 100 set x = x + 1;");
        Check.same("the last of 100 states", 99, bench.value(99, 0));
        Check.same("a gain there", 98, bench.gain(98, 0, 0));
        Check.same("another gain there", -98, bench.gain(98, 0, 2));
        solved(bench, 30, 1, 0, 0);
        Check.same("from 0", 10000 * (29 * 30 / 2), bench.worth(0, 0, 30));
        Check.same("from 60", 10000 * (60 * 30 + 29 * 30 / 2), bench.worth(0, 60, 30));
        Check.same("from 98", 980000, bench.worth(0, 98, 30));
        Check.same("from 99", 0, bench.worth(0, 99, 30));
        Check.same("taken in 98", 0, bench.takes(0, 98, 30));
        Check.same("taken in 99", -1, bench.takes(0, 99, 30));
        Check.same("all steps", 30, bench.value(bench.play(0), 0));
        Check.same("no goal", 0, bench.reach(30, false));
    }

    private static void promise18Brings() {
        MarkovBench bench = Tape.compiled(TWO);
        int forA = solved(bench, 2, 1, 0);
        int forB = solved(bench, 2, 0, 9);
        int once = solved(bench, 1, 0, 9);
        Check.same("a for a", 60000, bench.brings(forA, 0));
        Check.same("b for a", 0, bench.brings(forA, 1));
        Check.same("a for b", 39000, bench.brings(forB, 0));
        Check.same("b for b", 50000, bench.brings(forB, 1));
        Check.same("a for b once", 30000, bench.brings(once, 0));
        Check.same("b for b once", 50000, bench.brings(once, 1));
        Check.noIndex(bench, "strategy 3", () -> bench.brings(3, 0));
        Check.noIndex(bench, "strategy -1", () -> bench.brings(-1, 0));
        Check.noIndex(bench, "gain 2", () -> bench.brings(0, 2));
        Check.noIndex(bench, "gain -1", () -> bench.brings(0, -1));
        MarkovBench cut = Tape.compiled(CUT);
        int four = solved(cut, 4, 3, 0);
        int five = solved(cut, 5, 0, 3);
        Check.same("cut", 14748, cut.brings(four, 0));
        Check.same("cut towards 0", -14748, cut.brings(four, 1));
        Check.same("cut in five steps", 14866, cut.brings(five, 0));
        Check.same("cut towards 0 in five steps", -14866, cut.brings(five, 1));
    }

    private static void promise19Chance() {
        MarkovBench bench = Tape.compiled(TWO);
        Check.same("for a in one step", 0, bench.chance(solved(bench, 1, 1, 0)));
        Check.same("for a in two", 1000000, bench.chance(solved(bench, 2, 1, 0)));
        Check.same("for b in one step", 700000, bench.chance(solved(bench, 1, 0, 1)));
        Check.same("for b in two", 1000000, bench.chance(solved(bench, 2, 0, 1)));
        Check.noIndex(bench, "strategy 4", () -> bench.chance(4));
        Check.noIndex(bench, "strategy -1", () -> bench.chance(-1));
        MarkovBench cut = Tape.compiled(CUT);
        long[] want = {670000, 891100, 964063, 988140, 996086};
        for (int steps = 1; steps <= want.length; steps++) {
            Check.same("cut, " + steps, want[steps - 1], cut.chance(cut.solve(steps)));
        }
        MarkovBench at = Tape.compiled("var x = 0 in 0 to 1; do a when 1 go 100; goal x = 0;");
        Check.same("in a goal at once", 1000000, at.chance(at.solve(1)));
        MarkovBench none = Tape.compiled("var x = 0 in 0 to 1; do a when 1 go 100;");
        Check.same("without a goal", 0, none.chance(none.solve(30)));
        MarkovBench stuck = Tape.compiled("var x = 0 in 0 to 1; do a when 0 go 100; goal x = 1;");
        Check.same("without choices", 0, stuck.chance(stuck.solve(30)));
    }

    private static void promise20IsWorthHaving() {
        MarkovBench bench = Tape.compiled(THREE);
        int one = solved(bench, 1, 0, 0, 0);
        Check.same("alone", true, bench.isWorthHaving(one));
        int same = solved(bench, 2, 0, 0, 0);
        Check.same("beside the same", true, bench.isWorthHaving(one));
        int two = solved(bench, 1, 0, 1, 0);
        Check.same("a better one is kept", false, bench.isWorthHaving(one));
        Check.same("a better one is kept", false, bench.isWorthHaving(same));
        Check.same("the better one", true, bench.isWorthHaving(two));
        int three = solved(bench, 1, 0, 0, 1);
        Check.same("none is better than the other", true, bench.isWorthHaving(two));
        Check.same("none is better than the other", true, bench.isWorthHaving(three));
        Check.noIndex(bench, "strategy 4", () -> bench.isWorthHaving(4));
        Check.noIndex(bench, "strategy -1", () -> bench.isWorthHaving(-1));
        bench.drop(three);
        bench.drop(two);
        Check.same("the better one is gone", true, bench.isWorthHaving(one));
        Tape.compile(bench, THREE);
        solved(bench, 1, 0, 1, 0);
        solved(bench, 1, 0, 0, 0);
        Check.same("the better one comes first", false, bench.isWorthHaving(1));
        Check.same("the better one is worth having", true, bench.isWorthHaving(0));
        MarkovBench bySteps = Tape.compiled(TWO);
        solved(bySteps, 1, 1, 0);
        solved(bySteps, 2, 1, 0);
        Check.same("one with more steps brings more of the first gain", false,
                bySteps.isWorthHaving(0));
        Check.same("and is worth having", true, bySteps.isWorthHaving(1));
        MarkovBench plain = Tape.compiled("var x = 0 in 0 to 1; do a when 1 go 100;");
        plain.solve(1);
        plain.solve(2);
        Check.same("without gains", true, plain.isWorthHaving(0));
    }

    /** Ways to the states 1 + c, which bring c of one gain and 81 - c * c of the other one. */
    private static String tenWays() {
        StringBuilder text = new StringBuilder("var x = 0 in 0 to 1; var c = 0 in 0 to 9; ");
        text.append("gain a = c * x; gain b = (81 - c * c) * x; do end when x = 1 go 100; ");
        for (int i = 0; i < 10; i++) {
            text.append("do c").append(i).append(" when x = 0 go 100 set x = 1, c = ").append(i)
                    .append("; ");
        }
        return text.toString();
    }

    private static void promise21Sweep() {
        MarkovBench bench = Tape.compiled(TWO);
        Check.noIndex(bench, "gain 2", () -> bench.sweep(2, 0, 0, 0));
        Check.noIndex(bench, "gain -1", () -> bench.sweep(-1, 0, 1, 1));
        Check.noIndex(bench, "second gain 2", () -> bench.sweep(0, 2, 1, 1));
        Check.noIndex(bench, "second gain -1", () -> bench.sweep(0, -1, 1, 1));
        Check.noIndex(bench, "both 2", () -> bench.sweep(2, 2, 1, 1));
        Check.noArgument(bench, "the same", () -> bench.sweep(1, 1, 1, 1));
        Check.noArgument(bench, "n 0", () -> bench.sweep(0, 1, 0, 1));
        Check.noArgument(bench, "n 10", () -> bench.sweep(0, 1, 10, 1));
        Check.noArgument(bench, "0 steps", () -> bench.sweep(0, 1, 1, 0));
        Check.noArgument(bench, "31 steps", () -> bench.sweep(0, 1, 1, 31));
        bench.weigh(0, -5);
        bench.weigh(1, -6);
        // k = 0 is for b alone; with k = 9 of 9, for a alone, fast is taken.
        Check.same("sweep", 2, bench.sweep(0, 1, 9, 2));
        Check.same("first for b", 50000, bench.brings(0, 1));
        Check.same("then for a", 60000, bench.brings(1, 0));
        Check.same("the weights stay", -5, bench.weigh(0, 0));
        Check.same("the weights stay", -6, bench.weigh(1, 0));
        Check.same("worth by the weights 0 and 9", 450000, bench.worth(0, 0, 2));
        // fast is taken as soon as 60000 * k > 39000 * k + 50000 * (9 - k).
        Check.same("worth by the weights 7 and 2", 420000, bench.worth(1, 0, 2));
        Check.same("the same is not kept again", 0, bench.sweep(0, 1, 5, 2));
        Check.same("nor the other way round", 0, bench.sweep(1, 0, 9, 2));
        Check.same("with one step both bring something else", 2, bench.sweep(0, 1, 1, 1));
        MarkovBench three = Tape.compiled(THREE);
        three.weigh(2, 9);
        Check.same("others have no weight", 2, three.sweep(0, 1, 3, 1));
        Check.same("so that two is taken", 80000, three.brings(0, 1));
        Check.same("and one", 0, three.brings(1, 2));
        Check.same("the third gain tells them apart", 1, three.sweep(0, 2, 1, 1));
        Check.same("none is like it", 20000, three.brings(2, 2));
        three.drop(0);
        three.drop(0);
        three.drop(0);
        solved(three, 1, 0, 0, 9);
        three.drop(0);
        Check.same("what a dropped one was made for is gone", 2, three.sweep(0, 1, 1, 1));
        Check.same("so that two is taken again", 80000, three.brings(0, 1));
        MarkovBench first = Tape.compiled("var x = 0 in 0 to 1; gain a per two = 1; gain b = 7; "
                + "do one when x = 0 go 100 set x = 1; do two when x = 0 go 100 set x = 1;");
        Check.same("the first gain tells them apart", 2, first.sweep(0, 1, 1, 1));
        MarkovBench none = new MarkovBench();
        Check.noIndex(none, "without a program", () -> none.sweep(0, 1, 1, 1));
    }

    private static void promise21SweepWithoutRoom() {
        MarkovBench bench = Tape.compiled(tenWays());
        // The best c is about k / (2 * (9 - k)): 0 for k to 4, then 1, 1, 2, 4, 9.
        Check.same("five are kept", 5, bench.sweep(0, 1, 9, 2));
        long[] want = {0, 10000, 20000, 40000, 90000};
        for (int i = 0; i < want.length; i++) {
            Check.same("in the order of k", want[i], bench.brings(i, 0));
        }
        Tape.compile(bench, tenWays());
        for (int i = 0; i < 8; i++) {
            // With one step nothing is brought, other than by what the sweep will make.
            Check.same("fill", i, bench.solve(1));
        }
        Check.noState(bench, "one too many", () -> bench.sweep(0, 1, 9, 2));
        Check.same("none is kept then", 8, bench.count(4));
        Check.noArgument(bench, "a wrong n goes ahead", () -> bench.sweep(0, 1, 10, 2));
        bench.drop(0);
        Check.same("there is room for just so many", 5, bench.sweep(0, 1, 9, 2));
        Check.same("all rooms", 12, bench.count(4));
        Check.same("nothing new needs no room", 0, bench.sweep(0, 1, 9, 2));
        Check.noState(bench, "another strategy", () -> bench.sweep(0, 1, 9, 3));
        Check.noState(bench, "solve", () -> bench.solve(1));
    }

    private static void promise22Mix() {
        MarkovBench bench = Tape.compiled(TWO);
        int forA = solved(bench, 2, 1, 0);
        int forB = solved(bench, 2, 0, 1);
        Check.same("all of the first", 60000, bench.mix(forA, forB, 100, 0));
        Check.same("all of the second", 39000, bench.mix(forA, forB, 0, 0));
        Check.same("1 of the first", 39210, bench.mix(forA, forB, 1, 0));
        Check.same("30 of the first, b", 35000, bench.mix(forA, forB, 30, 1));
        Check.same("the other way round", 15000, bench.mix(forB, forA, 30, 1));
        Check.same("with itself", 39000, bench.mix(forB, forB, 77, 0));
        Check.noIndex(bench, "strategy 2", () -> bench.mix(2, 0, 101, 0));
        Check.noIndex(bench, "second 2", () -> bench.mix(0, 2, 0, 0));
        Check.noIndex(bench, "strategy -1", () -> bench.mix(-1, 0, 0, 0));
        Check.noIndex(bench, "second -1", () -> bench.mix(0, -1, 0, 0));
        Check.noIndex(bench, "gain 2", () -> bench.mix(0, 0, 101, 2));
        Check.noIndex(bench, "gain -1", () -> bench.mix(0, 0, 0, -1));
        Check.noArgument(bench, "101 hundredths", () -> bench.mix(0, 0, 101, 0));
        Check.noArgument(bench, "-1 hundredths", () -> bench.mix(0, 0, -1, 0));
        MarkovBench cut = Tape.compiled(CUT);
        int four = solved(cut, 4, 0, 0);
        int five = solved(cut, 5, 0, 0);
        Check.same("cut", (14748 * 37 + 14866 * 63) / 100, cut.mix(four, five, 37, 0));
        Check.same("cut towards 0", -(14748 * 37 + 14866 * 63) / 100, cut.mix(four, five, 37, 1));
    }

    private static void promise23BestMix() {
        MarkovBench bench = Tape.compiled(TWO);
        Check.same("without strategies", -1, bench.bestMix(0, 1, Long.MIN_VALUE));
        solved(bench, 2, 1, 0);
        solved(bench, 2, 0, 1);
        Check.same("half of each", 1050, bench.bestMix(0, 1, 25000));
        Check.same("a little more", 1049, bench.bestMix(0, 1, 25001));
        Check.same("just the greatest bound", 1000, bench.bestMix(0, 1, 50000));
        Check.same("a bound too great", -1, bench.bestMix(0, 1, 50001));
        Check.same("no bound", 0, bench.bestMix(0, 1, 0));
        Check.same("the least bound", 0, bench.bestMix(0, 1, Long.MIN_VALUE));
        Check.same("most of b", 1000, bench.bestMix(1, 0, 0));
        Check.same("most of b with enough of a", 1005, bench.bestMix(1, 0, 40000));
        Check.same("one gain alone", 0, bench.bestMix(0, 0, 60000));
        Check.same("one gain alone, too much", -1, bench.bestMix(0, 0, 60001));
        // The same strategies the other way round: the mix that is as good has other parts.
        bench.solve(2);
        bench.drop(0);
        solved(bench, 2, 1, 0);
        Check.same("strategies", 3, bench.count(4));
        Check.same("the smallest b of several", 2050, bench.bestMix(0, 1, 25000));
        Check.same("most of a", 2000, bench.bestMix(0, 1, 0));
        Check.same("most of b, the smallest a, b and p", 0, bench.bestMix(1, 0, 0));
        Check.noIndex(bench, "gain 2", () -> bench.bestMix(2, 0, 0));
        Check.noIndex(bench, "gain -1", () -> bench.bestMix(-1, 0, 0));
        Check.noIndex(bench, "second 2", () -> bench.bestMix(0, 2, 0));
        Check.noIndex(bench, "second -1", () -> bench.bestMix(0, -1, 0));
        // The best may be less than 0.
        MarkovBench cut = Tape.compiled(CUT);
        cut.solve(5);
        cut.solve(4);
        Check.same("the best below 0", 1000, cut.bestMix(1, 0, 0));
    }

    private static void promise24Drop() {
        MarkovBench bench = Tape.compiled(TWO);
        for (int steps = 1; steps <= 4; steps++) {
            solved(bench, steps, 1, 0);
        }
        Check.noIndex(bench, "strategy 4", () -> bench.drop(4));
        Check.noIndex(bench, "strategy -1", () -> bench.drop(-1));
        Check.same("drop one between", 3, bench.drop(1));
        Check.same("the one ahead", 30000, bench.worth(0, 0, 1));
        Check.noArgument(bench, "the one ahead has 1 step", () -> bench.worth(0, 0, 2));
        Check.noArgument(bench, "the next has 3 steps", () -> bench.worth(1, 0, 4));
        Check.same("the next has 3 steps", 60000, bench.worth(1, 0, 3));
        Check.same("the last has 4 steps", 60000, bench.worth(2, 0, 4));
        Check.noIndex(bench, "strategy 3 is gone", () -> bench.chance(3));
        Check.same("drop the last", 2, bench.drop(2));
        Check.same("drop the first", 1, bench.drop(0));
        Check.same("what is left has 3 steps", 60000, bench.worth(0, 0, 3));
        Check.same("drop all", 0, bench.drop(0));
        Check.noIndex(bench, "drop of none", () -> bench.drop(0));
        Check.same("solve then", 0, solved(bench, 2, 0, 1));
        Check.same("a new one", 50000, bench.brings(0, 1));
        Check.same("and another", 1, solved(bench, 2, 1, 0));
        Check.same("they are apart", 50000, bench.brings(0, 1));
    }
}
