/** Promises 1 to 8: a new object, feed, trim, compile, errorAt, count, test, result. */
public final class ProgramsTest {
    private static final String WALK = "var x = 0 in 0 to 3; gain money = x; gain pain per run = 2; "
            + "do walk when x < 3 go 100 set x = x + 1; "
            + "do run when x < 2 go 50 set x = x + 2 also go 50; goal x = 3;";

    public static void main(String[] args) {
        promise1New();
        promise2Feed();
        promise3Trim();
        promise4Compile();
        promise5ErrorAt();
        promise6Count();
        promise7Test();
        promise8Result();
        Check.end();
    }

    private static void promise1New() {
        MarkovBench bench = new MarkovBench();
        for (int what = 0; what < 6; what++) {
            Check.same("new: count " + what, 0, bench.count(what));
        }
        Check.same("new: errorAt", -1, bench.errorAt());
        Check.same("new: result", 0, bench.result());
        Check.same("new: played", 0, bench.played(0));
        Check.same("new: z", 0, bench.seed(7));
        Check.noState(bench, "new: solve", () -> bench.solve(1));
        Check.noState(bench, "new: reach", () -> bench.reach(0, true));
        Check.noIndex(bench, "new: a state", () -> bench.value(0, 0));
        Check.same("new: digest", 9106675270741L, new MarkovBench().digest());
        Check.same("an empty tape", 1, new MarkovBench().compile());
    }

    private static void promise2Feed() {
        MarkovBench bench = Tape.compiled(WALK);
        // "x + 1", the rest blanks: the highest byte of each number stands first.
        Check.same("feed", 20, bench.feed(0x78202b20, 0x31202020, 0x20202020, 0x20202020, 0x20202020));
        Check.same("bytes", 20, bench.count(5));
        Check.same("test of what was fed", 0, bench.test(2));
        Check.same("result of it", 3, bench.result());
        // Each of the five numbers has its place, and bytes above 127 are kept apart.
        Check.same("feed all", 20,
                bench.feed(0x3132332b, 0x3435362b, 0x3738392b, 0x3130312b, 0x32303220));
        Check.same("test of all", 0, bench.test(0));
        Check.same("result of all", 123 + 456 + 789 + 101 + 202, bench.result());
        bench.feed(0x31202020, 0x20202020, 0x20202020, 0x20202020, 0x202020ff);
        Check.same("a byte of 255", 1, bench.test(0));
        Check.same("where it stands", 19, bench.errorAt());
        bench.feed(0x80000000, 0, 0, 0, 0);
        Check.same("a byte of 128", 1, bench.test(0));
        Check.same("where that stands", 0, bench.errorAt());
        MarkovBench full = new MarkovBench();
        for (int i = 1; i <= 75; i++) {
            Check.same("feed " + i, 20 * i, full.feed(-1, 0, i, Integer.MIN_VALUE, 1));
        }
        Check.noState(full, "feed to 1520", () -> full.feed(0, 0, 0, 0, 0));
        full.trim(1481);
        Check.noState(full, "feed to 1501", () -> full.feed(0, 0, 0, 0, 0));
        full.trim(1480);
        Check.same("feed to 1500", 1500, full.feed(0, 0, 0, 0, 0));
        Check.same("all bytes", 1500, full.count(5));
    }

    private static void promise3Trim() {
        MarkovBench bench = Tape.compiled(WALK);
        Check.same("trim of an empty tape", 0, bench.trim(0));
        Check.noArgument(bench, "trim beyond an empty tape", () -> bench.trim(1));
        Tape.put(bench, "12 + 34 * 2");
        Check.noArgument(bench, "trim to -1", () -> bench.trim(-1));
        Check.noArgument(bench, "trim to more", () -> bench.trim(12));
        Check.noArgument(bench, "trim to the least", () -> bench.trim(Integer.MIN_VALUE));
        Check.same("trim to the same", 11, bench.trim(11));
        bench.trim(4);
        Check.same("what was cut is not read", 1, bench.test(0));
        Check.same("nor is it the end", 4, bench.errorAt());
        Tape.put(bench, "xy ");
        bench.trim(1);
        Check.same("a word is cut", 0, bench.test(0));
        Tape.put(bench, "12 + 34 * 2");
        bench.trim(6);
        Check.same("a number is cut", 0, bench.test(0));
        Check.same("to one digit", 15, bench.result());
        Tape.put(bench, "12 + 34 * 2");
        Check.same("trim", 6, bench.trim(6));
        Check.noArgument(bench, "what was cut does not come back", () -> bench.trim(7));
        bench.feed(0x20202020, 0x20202020, 0x20202020, 0x20202020, 0x20202020);
        Check.same("test of the first bytes", 0, bench.test(0));
        Check.same("what they yield", 15, bench.result());
        Tape.put(bench, "12");
        Check.same("trim to nothing", 0, bench.trim(0));
        Check.same("no bytes", 0, bench.count(5));
    }

    private static void promise4Compile() {
        MarkovBench bench = Tape.compiled(WALK);
        Check.same("the tape is empty then", 0, bench.count(5));
        bench.weigh(0, 3);
        bench.solve(2);
        bench.seed(99);
        bench.play(0);
        Check.same("played", 2, bench.played(0));
        Check.same("compile again", 0, Tape.compile(bench, WALK));
        Check.same("strategies are gone", 0, bench.count(4));
        Check.same("weights are 0", 0, bench.weigh(0, 4));
        Check.same("no play since", 0, bench.played(0));
        Check.same("z goes on", true, bench.seed(99) != 0);
        bench.solve(2);
        bench.play(0);
        Check.same("a wrong program", 7, Tape.compile(bench, "goal 1;"));
        for (int what = 0; what < 6; what++) {
            Check.same("behind a wrong program: count " + what, 0, bench.count(what));
        }
        Check.same("behind a wrong program: played", 0, bench.played(0));
        Check.noState(bench, "behind a wrong program: solve", () -> bench.solve(1));
        Check.noIndex(bench, "behind a wrong program: weigh", () -> bench.weigh(0, 0));
        String most = "goal 1;".repeat(213) + "   goal 1";
        Check.same("a full tape", 1, Tape.compile(bench, most));
        Check.same("its end", 1500, bench.errorAt());
        Check.same("as many tokens as may be", 1, Tape.compile(bench, ";".repeat(1500)));
        Check.same("the first of them", 0, bench.errorAt());
        Check.same("a full tape of blanks", 1, Tape.compile(bench, " ".repeat(1500)));
        Check.same("its end", 1500, bench.errorAt());
        Check.same("an error while exploring", 9, Tape.compile(bench,
                "var x = 0 in 0 to 1; gain g = 1; do a when 1 go 100 set x = x + 1;"));
        for (int what = 0; what < 6; what++) {
            Check.same("behind an error while exploring: count " + what, 0, bench.count(what));
        }
        Tape.compile(bench, WALK);
        Check.same("weights are 0 behind an error, too", 0, bench.weigh(0, 0));
    }

    private static void promise5ErrorAt() {
        MarkovBench bench = new MarkovBench();
        Check.same("none yet", -1, bench.errorAt());
        Check.same("compile of nothing", 1, Tape.compile(bench, "   "));
        Check.same("its place", 3, bench.errorAt());
        Tape.compile(bench, WALK);
        Check.same("compile without an error", -1, bench.errorAt());
        Check.same("a wrong expression", null, Tape.reckon(bench, "1 + nothing", 0));
        Check.same("the place in it", 4, bench.errorAt());
        Check.noIndex(bench, "a test that is refused", () -> bench.test(4));
        Check.same("the place stays", 4, bench.errorAt());
        Check.same("a right expression", 1L, Tape.reckon(bench, "1", 0));
        Check.same("test without an error", -1, bench.errorAt());
    }

    private static void promise6Count() {
        MarkovBench bench = Tape.compiled("var x = 0 in 0 to 4; var y = 0 in 0 to 1; gain g = 1; "
                + "do a when x < 4 go 100 set x = x + 1; do b when 0 go 100; do c when 0 go 100;");
        bench.solve(1);
        bench.solve(1);
        bench.solve(1);
        bench.solve(1);
        Tape.put(bench, "1234567");
        int[] want = {2, 1, 3, 5, 4, 7};
        for (int what = 0; what < 6; what++) {
            Check.same("count " + what, want[what], bench.count(what));
        }
        Check.noIndex(bench, "count 6", () -> bench.count(6));
        Check.noIndex(bench, "count -1", () -> bench.count(-1));
    }

    private static void promise7Test() {
        MarkovBench bench = Tape.compiled(WALK);
        Tape.put(bench, "x * 10");
        Check.noIndex(bench, "test in state 4", () -> bench.test(4));
        Check.noIndex(bench, "test in state -1", () -> bench.test(-1));
        Check.same("the tape is still there", 6, bench.count(5));
        Check.same("test in state 3", 0, bench.test(3));
        Check.same("the tape is empty then", 0, bench.count(5));
        Tape.put(bench, "x + money");
        Check.same("a gain is no variable", 2, bench.test(0));
        Check.same("the tape is empty behind an error", 0, bench.count(5));
        Check.same("an empty tape", 1, bench.test(0));
        Check.same("its place", 0, bench.errorAt());
        Check.same("the program is still there", 4, bench.count(3));
        Check.same("and its gains", 2, bench.gain(0, 1, 1));
        MarkovBench none = new MarkovBench();
        Tape.put(none, "1");
        Check.noIndex(none, "test without a program", () -> none.test(0));
    }

    private static void promise8Result() {
        MarkovBench bench = Tape.compiled(WALK);
        Check.same("never done", 0, bench.result());
        Tape.reckon(bench, "x * 10", 3);
        Check.same("in state 3", 30, bench.result());
        Check.same("once more", 30, bench.result());
        Check.noIndex(bench, "a test that is refused", () -> bench.test(99));
        Tape.compile(bench, WALK);
        Check.same("behind compile", 30, bench.result());
        Tape.reckon(bench, "x * ", 3);
        Check.same("behind error 1", 0, bench.result());
        Tape.reckon(bench, "x - 10", 0);
        Check.same("in state 0", -10, bench.result());
        Tape.reckon(bench, "q", 0);
        Check.same("behind error 2", 0, bench.result());
    }
}
