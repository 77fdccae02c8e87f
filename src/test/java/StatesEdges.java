/** The sentences on states, and those of promises 9 to 13. */
final class StatesEdges {
    private static final String X = "var x = 0 in 0 to 9; ";
    // (x, y): 0 is (0, 0); one leads to 1 (1, 0), 2 (0, 1) and back, two to 3 (2, 2); 1 has one choice
    // that leads to 4 (9, 9); 3 is a goal; 2 and 4 have no choices.
    private static final String WEB = X + "var y = 0 in 0 to 9; gain g = x + 10; gain h per two = 7; "
            + "do none when x = 9 and y = 0 go 100; "
            + "do one when x + y = 0 go 20 set x = 1 also go 30 set y = 1 also go 50; "
            + "do two when x + y = 0 go 100 set x = 2, y = 2; "
            + "do three when x = 1 or x = 2 go 1 set x = 9, y = 9 also go 99; goal x = 2;";

    private StatesEdges() { }

    static void run() {
        found();
        fails();
        choicesOfStates();
        value();
        choices();
        choice();
        gain();
        branch();
    }

    private static void refusedIndex(String what, Benches.Act act) {
        Benches.refused(what, IndexOutOfBoundsException.class, act, () -> Tape.compiled(WEB));
        Benches.noIndexWithoutProgram(what, act);
    }

    private static void found() {
        Sentences.of("Terms", "A state is a value for each variable. The states are numbered from 0 in the "
                + "order in which they are found: state 0 has the values at first; then the states are "
                + "gone through in the order of their numbers, in each one the commands that are enabled "
                + "there, in their order (none, if it is a goal), and in each of these its branches in "
                + "their order; a state to which a branch leads that was not found yet is the next one.");
        int[][] want = {{0, 0}, {1, 0}, {0, 1}, {2, 2}, {9, 9}};
        MarkovBench bench = Tape.compiled(WEB);
        Check.same("states", want.length, bench.count(3));
        for (int state = 0; state < want.length; state++) {
            Check.same("x in " + state, want[state][0], bench.value(state, 0));
            Check.same("y in " + state, want[state][1], bench.value(state, 1));
        }
        MarkovBench one = Tape.compiled("var x = -7 in -9 to 9; do a when 0 go 100 set x = 5;");
        Check.same("the values at first alone", 1, one.count(3));
        Check.same("which they are", -7, one.value(0, 0));
        Check.same("none from a goal", 1,
                Tape.compiled(X + "do a when 1 go 100 set x = 1; goal 1;").count(3));
        // The last variable alone makes another state, and the same values the same one.
        MarkovBench six = Tape.compiled("var a = 0 in 0 to 1; var b = 0 in 0 to 1; var c = 0 in 0 to 1; "
                + "var d = 0 in 0 to 1; var e = 0 in 0 to 1; var f = 0 in 0 to 1; "
                + "do l when 1 go 50 set f = 1 - f also go 50 set a = 1 - a;");
        Check.same("by the first and the last", 4, six.count(3));
        int[][] pairs = {{0, 0}, {0, 1}, {1, 0}, {1, 1}};
        int[][] targets = {{1, 2}, {0, 3}, {3, 0}, {2, 1}};
        for (int state = 0; state < 4; state++) {
            Check.same("a in " + state, pairs[state][0], six.value(state, 0));
            Check.same("f in " + state, pairs[state][1], six.value(state, 5));
            Check.same("first from " + state, targets[state][0], six.branch(state, 0, 0, false));
            Check.same("second from " + state, targets[state][1], six.branch(state, 0, 1, false));
        }
    }

    private static void fails() {
        Sentences.of("Terms", "It fails, if there would be more than 100 states (error 8), or a branch sets "
                + "a variable to a value that is not within its bounds (error 9), whichever is met first.");
        String to = "var x = 0 in -99 to 99; do a when x < ";
        Check.same("99 states", 99, Tape.compiled(to + "98 go 100 set x = x + 1;").count(3));
        Check.same("100 states", 100, Tape.compiled(to + "99 go 100 set x = x + 1;").count(3));
        // From the last of 100 states to others that are known already, and to a 101st.
        String round = "var x = 0 in 0 to 99; var y = 0 in 0 to 1; ";
        Benches.compiles(0, round + "do a when 1 go 100 set x = (x + 1) % 100;");
        Benches.compiles(8, round + "do ^a when 1 go 100 set x = (x + 1) % 100, y = (x = 99);");
        Benches.compiles(8, "var x = -1 in -99 to 99; do ^a when x < 99 go 100 set x = x + 1;");
        String bounds = "var x = 0 in -3 to 7; do a when 1 go 100 set x = ";
        Benches.compiles(0, bounds + "7;");
        Benches.compiles(0, bounds + "-3;");
        for (String value : new String[] {"8", "-4", "999999", "-999999", "65536 * 65536",
            "65536 * 65536 + 7", "-(65536 * 65536)", "512 * 262144 * 262144 * 262144",
            "512 * 262144 * 262144 * 262144 - 1", "512 * 262144 * 262144 * 262144 + 5"}) {
            Benches.compiles(9, (bounds + value + ";").replace("do a", "do ^a"));
        }
        // What wraps around to a value within them is within them.
        Benches.compiles(0, bounds + "65536 * 65536 * 65536 * 65536 + 7;");
        Benches.compiles(9, "var x = -99 in -99 to 99; do ^a when 1 go 100 set x = -100;");
        Benches.compiles(9, "var x = 99 in -99 to 99; do ^a when 1 go 100 set x = x + 1;");
        Benches.compiles(0, "var x = 99 in -99 to 99; do a when 1 go 100 set x = -99;");
        // Only where a command is enabled, and of any branch.
        Benches.compiles(0, X + "do a when x = 1 go 100 set x = 10;");
        Benches.compiles(9, X + "do ^a when 1 go 1 also go 1 also go 1 also go 97 set x = 10;");
        Benches.compiles(9, X + "var y = 0 in 0 to 1; do ^a when 1 go 100 set x = 9, y = 2;");
        Benches.compiles(9, X + "var y = 0 in 0 to 1; do ^a when 1 go 100 set y = 1, x = 10;");
        // Whichever is met first: by states, by commands, by branches.
        String both = "var x = 0 in 0 to 99; var y = 0 in 0 to 1; ";
        String more = "do more when 1 go 100 set x = (x + 1) % 100, y = (x = 99); ";
        Benches.compiles(8, both + more.replace("do ", "do ^") + "do out when x = 99 go 100 set x = 100;");
        Benches.compiles(9, both + "do ^out when x = 99 go 100 set x = 100; " + more);
        Benches.compiles(9, both + more + "do ^out when x = 98 go 100 set x = 100;");
        Benches.compiles(8, both + "do ^b when 1 go 50 set x = (x + 1) % 100, y = (x = 99) also go 50 "
                + "set x = x + (x = 99);");
        Benches.compiles(9, both + "do ^b when 1 go 50 set x = x + (x = 99) also go 50 "
                + "set x = (x + 1) % 100, y = (x = 99);");
        // A value that is not within its bounds makes no state, so that it is met in one branch first.
        Benches.compiles(9, both + "do ^b when 1 go 100 set x = (x + 1) % 100, y = (x = 99) * 2;");
        Sentences.of("Terms", "Then compile() tells this error, and the position of the name of the command "
                + "at which it was met.");
        Benches.compiles(9, X + "do first when 0 go 100; do\n  ^second when 1 go 100 set x = 10; "
                + "do third when 1 go 100 set x = 10;");
        Benches.compiles(8, "var x = -1 in -99 to 99;do ^a when x<99 go 100 set x=x+1;");
        Benches.compiles(9, "do a when 1 go 100; " + X + "do ^b when 1 go 100 set x = 10;");
        MarkovBench bench = Benches.ready();
        bench.trim(0);
        Tape.compile(bench, X + "gain g = 1; do a when 1 go 100 set x = x + 1;");
        for (int what = 0; what < 6; what++) {
            Check.same("no program then: count " + what, 0, bench.count(what));
        }
    }

    private static void choicesOfStates() {
        Sentences.of("Terms", "The choices of a state are its enabled commands, numbered from 0 in their "
                + "order; a goal has none.");
        MarkovBench bench = Tape.compiled(WEB);
        Check.same("the first of 0", 1, bench.choice(0, 0, 0));
        Check.same("the second of 0", 2, bench.choice(0, 1, 0));
        Check.same("the only one of 1", 3, bench.choice(1, 0, 0));
        Check.fails("the goal would have one", IndexOutOfBoundsException.class,
                () -> bench.choice(3, 0, 0));
        MarkovBench most = TapeEdges.greatest();
        for (int choice = 0; choice < 16; choice++) {
            Check.same("all sixteen", choice, most.choice(0, choice, 0));
            if (choice < 15) {
                Check.same("all but the first", choice + 1, most.choice(99, choice, 0));
            }
        }
        Check.same("all sixteen in the last state", 15, TapeEdges.widest().choice(99, 15, 0));
        Check.same("as many", 16, most.choices(98));
        Check.same("one less", 15, most.choices(99));
    }

    private static void value() {
        Sentences.of("Promise 9", "`int value(int state, int variable) throws IndexOutOfBoundsException`: "
                + "- `state`: a state");
        MarkovBench most = TapeEdges.greatest();
        for (int state = 0; state < 100; state += 33) {
            Check.same("the first variable in " + state, state, most.value(state, 0));
            Check.same("the last variable in " + state, state - 99, most.value(state, 5));
        }
        Sentences.plain("Promise 9", "- `variable`: a variable");
        Sentences.of("Promise 9", "Returns its value there.");
        Check.same("the least value", -99, most.value(0, 5));
        Check.same("the greatest value", 99, most.value(99, 0));
        Sentences.of("Promise 9", "Throws `IndexOutOfBoundsException` if there is no such state or variable");
        for (int odd : new int[] {-1, Integer.MIN_VALUE, Integer.MAX_VALUE, 100, 6}) {
            refusedIndex("state " + odd, b -> b.value(odd, 0));
            refusedIndex("variable " + odd, b -> b.value(0, odd));
            refusedIndex("both " + odd, b -> b.value(odd, odd));
        }
        refusedIndex("state 5 of 5", b -> b.value(5, 0));
        refusedIndex("variable 2 of 2", b -> b.value(4, 2));
        Check.same("the last ones", 9, Tape.compiled(WEB).value(4, 1));
        Check.fails("state 100 of 100", IndexOutOfBoundsException.class, () -> most.value(100, 0));
        Check.fails("variable 6 of 6", IndexOutOfBoundsException.class, () -> most.value(0, 6));
    }

    private static void choices() {
        Sentences.of("Promise 10", "`int choices(int state) throws IndexOutOfBoundsException`: [..] Returns "
                + "the number of its choices; -1 if it is a goal.");
        int[] want = {2, 1, 0, -1, 0};
        MarkovBench bench = Tape.compiled(WEB);
        for (int state = 0; state < want.length; state++) {
            Check.same("choices of " + state, want[state], bench.choices(state));
        }
        // A goal in which nothing is enabled is one, too.
        MarkovBench none = Tape.compiled(X + "do a when 0 go 100; goal 1;");
        Check.same("a goal without enabled commands", -1, none.choices(0));
        Check.same("as many as may be", 16, TapeEdges.greatest().choices(0));
        Sentences.of("Promise 10", "Throws `IndexOutOfBoundsException` if there is no such state");
        for (int odd : new int[] {-1, 5, 100, Integer.MIN_VALUE, Integer.MAX_VALUE}) {
            refusedIndex("choices of " + odd, b -> b.choices(odd));
        }
        MarkovBench most = TapeEdges.greatest();
        Check.fails("state 100 of 100", IndexOutOfBoundsException.class, () -> most.choices(100));
    }

    private static void choice() {
        Sentences.plain("Promise 11",
                "`int choice(int state, int choice, int what) throws IndexOutOfBoundsException`: - `state`: "
                + "a state");
        Sentences.plain("Promise 11", "- `choice`: one of its choices");
        Sentences.of("Promise 11", "- `what`: 0 the command, 1 the number of its branches");
        MarkovBench bench = Tape.compiled(WEB);
        int[][] want = {{0, 0, 1, 3}, {0, 1, 2, 1}, {1, 0, 3, 2}};
        for (int[] row : want) {
            Check.same("the command", row[2], bench.choice(row[0], row[1], 0));
            Check.same("the branches", row[3], bench.choice(row[0], row[1], 1));
        }
        Sentences.of("Promise 11", "Returns this.");
        MarkovBench most = TapeEdges.greatest();
        Check.same("four branches", 4, most.choice(0, 0, 1));
        Check.same("one branch", 1, most.choice(0, 15, 1));
        Check.same("the last command", 15, most.choice(0, 15, 0));
        Check.same("one that is the first choice in the last state", 1, most.choice(99, 0, 0));
        Check.same("its branch", 1, most.choice(99, 0, 1));
        Sentences.of("Promise 11", "Throws `IndexOutOfBoundsException` if there is no such state or choice, "
                + "or what is not 0 or 1");
        for (int odd : new int[] {-1, Integer.MIN_VALUE, Integer.MAX_VALUE, 100, 16}) {
            refusedIndex("state " + odd, b -> b.choice(odd, 0, 0));
            refusedIndex("choice " + odd, b -> b.choice(0, odd, 0));
            refusedIndex("what " + odd, b -> b.choice(0, 0, odd));
        }
        refusedIndex("state 5 of 5", b -> b.choice(5, 0, 0));
        refusedIndex("choice 2 of 2", b -> b.choice(0, 2, 0));
        refusedIndex("choice 1 of 1", b -> b.choice(1, 1, 0));
        refusedIndex("choice 0 of none", b -> b.choice(2, 0, 0));
        refusedIndex("choice 0 of a goal", b -> b.choice(3, 0, 1));
        refusedIndex("choice -1 of a goal", b -> b.choice(3, -1, 0));
        refusedIndex("choice -2 of a goal", b -> b.choice(3, -2, 0));
        refusedIndex("what 2", b -> b.choice(0, 0, 2));
        Check.fails("choice 16 of 16", IndexOutOfBoundsException.class, () -> most.choice(0, 16, 0));
        Check.fails("choice 15 of 15", IndexOutOfBoundsException.class, () -> most.choice(99, 15, 0));
    }

    private static void gain() {
        Sentences.plain("Promise 12",
                "`long gain(int state, int choice, int gain) throws IndexOutOfBoundsException`: - `state`: a "
                + "state");
        Sentences.plain("Promise 12", "- `choice`: one of its choices");
        Sentences.plain("Promise 12", "- `gain`: a gain");
        Sentences.of("Promise 12", "Returns the gain of this choice.");
        MarkovBench bench = Tape.compiled(WEB);
        long[][] want = {{0, 0, 10, 0}, {0, 1, 10, 7}, {1, 0, 11, 0}};
        for (long[] row : want) {
            Check.same("g", row[2], bench.gain((int) row[0], (int) row[1], 0));
            Check.same("h", row[3], bench.gain((int) row[0], (int) row[1], 1));
        }
        MarkovBench most = TapeEdges.greatest();
        Check.same("the first gain in the last state", 99, most.gain(99, 14, 0));
        Check.same("the second", 1, most.gain(99, 14, 1));
        Check.same("the third, by the last command", -99, most.gain(0, 15, 2));
        Check.same("the third, by the last but one", 0, most.gain(0, 14, 2));
        MarkovBench wide = Tape.compiled(X + "do a when 1 go 100; gain least = 512 * 262144 * 262144 * "
                + "262144; gain greatest = 512 * 262144 * 262144 * 262144 - 1;");
        Check.same("the least", Long.MIN_VALUE, wide.gain(0, 0, 0));
        Check.same("the greatest", Long.MAX_VALUE, wide.gain(0, 0, 1));
        Sentences.of("Promise 12",
                "Throws `IndexOutOfBoundsException` if there is no such state, choice or gain");
        for (int odd : new int[] {-1, Integer.MIN_VALUE, Integer.MAX_VALUE, 100, 16, 3}) {
            refusedIndex("gain " + odd, b -> b.gain(0, 0, odd));
            refusedIndex("choice " + odd, b -> b.gain(0, odd, 0));
            refusedIndex("state " + odd, b -> b.gain(odd, 0, 0));
        }
        refusedIndex("state 5 of 5", b -> b.gain(5, 0, 0));
        refusedIndex("choice 2 of 2", b -> b.gain(0, 2, 0));
        refusedIndex("choice 0 of none", b -> b.gain(2, 0, 0));
        refusedIndex("choice 0 of a goal", b -> b.gain(3, 0, 0));
        refusedIndex("choice -1 of a goal", b -> b.gain(3, -1, 0));
        refusedIndex("gain 2 of 2", b -> b.gain(0, 0, 2));
        Check.fails("gain 3 of 3", IndexOutOfBoundsException.class, () -> most.gain(0, 0, 3));
        MarkovBench none = Tape.compiled(X + "do a when 1 go 100;");
        Check.fails("gain 0 of none", IndexOutOfBoundsException.class, () -> none.gain(0, 0, 0));
    }

    private static void branch() {
        Sentences.plain("Promise 13", "`int branch(int state, int choice, int branch, boolean isChance) "
                + "throws IndexOutOfBoundsException`: - `state`: a state");
        Sentences.plain("Promise 13", "- `choice`: one of its choices");
        Sentences.of("Promise 13", "- `branch`: a branch of it, from 0");
        MarkovBench bench = Tape.compiled(WEB);
        int[][] want = {{0, 0, 0, 20, 1}, {0, 0, 1, 30, 2}, {0, 0, 2, 50, 0}, {0, 1, 0, 100, 3},
            {1, 0, 0, 1, 4}, {1, 0, 1, 99, 1}};
        for (int[] row : want) {
            Check.same("chance", row[3], bench.branch(row[0], row[1], row[2], true));
            Check.same("target", row[4], bench.branch(row[0], row[1], row[2], false));
        }
        Sentences.of("Promise 13", "- `isChance`: whether its chance is meant; otherwise the state to which "
                + "it leads");
        Check.same("whether", 20, bench.branch(0, 0, 0, true));
        Check.same("otherwise", 1, bench.branch(0, 0, 0, false));
        Sentences.of("Promise 13", "Returns this.");
        MarkovBench most = TapeEdges.greatest();
        Check.same("to the last state", 99, most.branch(98, 0, 0, false));
        Check.same("the last branch stays", 98, most.branch(98, 0, 3, false));
        Check.same("its chance", 25, most.branch(98, 0, 3, true));
        MarkovBench wide = TapeEdges.widest();
        Check.same("the last branch of all", 0, wide.branch(99, 15, 3, false));
        Check.same("the last but one", 99, wide.branch(99, 15, 2, false));
        Check.same("that of the choice ahead", 99, wide.branch(99, 14, 3, false));
        Check.same("its chance", 25, wide.branch(99, 15, 3, true));
        Check.same("the last choice of the last state", 99, most.branch(99, 14, 0, false));
        Check.same("its chance", 100, most.branch(99, 14, 0, true));
        Sentences.of("Promise 13",
                "Throws `IndexOutOfBoundsException` if there is no such state, choice or branch");
        for (boolean isChance : new boolean[] {true, false}) {
            for (int odd : new int[] {-1, Integer.MIN_VALUE, Integer.MAX_VALUE, 100, 16, 4}) {
                refusedIndex("branch " + odd, b -> b.branch(0, 0, odd, isChance));
                refusedIndex("choice " + odd, b -> b.branch(0, odd, 0, isChance));
            }
            refusedIndex("state -1", b -> b.branch(-1, 0, 0, isChance));
            refusedIndex("state 5 of 5", b -> b.branch(5, 0, 0, isChance));
            refusedIndex("choice 2 of 2", b -> b.branch(0, 2, 0, isChance));
            refusedIndex("choice 0 of none", b -> b.branch(2, 0, 0, isChance));
            refusedIndex("choice 0 of a goal", b -> b.branch(3, 0, 0, isChance));
            refusedIndex("choice -1 of a goal", b -> b.branch(3, -1, 0, isChance));
            refusedIndex("branch 3 of 3", b -> b.branch(0, 0, 3, isChance));
            refusedIndex("branch 1 of 1", b -> b.branch(0, 1, 1, isChance));
            refusedIndex("branch 2 of 2", b -> b.branch(1, 0, 2, isChance));
            Check.fails("branch 4 of 4", IndexOutOfBoundsException.class,
                    () -> most.branch(0, 0, 4, isChance));
        }
    }
}
