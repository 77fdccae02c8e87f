/** The sentences on the tape, and those of promises 1 to 8. */
final class TapeEdges {
    private static final String TAPE = "The tape is a row of at most 1500 bytes, at first empty, which "
            + "feed and trim fill; compile and test read it, and it is empty behind each of these.";
    private static final int BLANKS = 0x20202020;
    private static final String X = "var x = 0 in 0 to 9; ";
    private static final String A = "do a when 1 go 100; ";
    private static final String[] ERRORS = {X + A, "$", "goal x;", X + "gain x = 1;",
        "goal 1; goal 1;", "var x = 0 in 0 to 100;", X + "do a when 1 go 99;", "goal 1;",
        "var x = 0 in 0 to 99; var y = 0 in 0 to 1; do a when 1 go 100 "
            + "set x = (x + 1) % 100, y = (x = 99);", X + "do a when 1 go 100 set x = x + 1;"};

    private TapeEdges() { }

    static void run() {
        lastCall();
        tape();
        aNewObject();
        feed();
        trim();
        compile();
        errorAt();
        count();
        test();
        result();
    }

    private static void feedBlanks(MarkovBench bench) {
        bench.feed(BLANKS, BLANKS, BLANKS, BLANKS, BLANKS);
    }

    private static void lastCall() {
        Sentences.of("What it is", "An object is used for at most 512 calls after it has been made; "
                + "what later calls answer is free.");
        MarkovBench bench = Tape.compiled(Benches.TWO);
        int calls = Tape.fives(Benches.TWO).length + 2;
        for (; calls + 3 <= 511; calls += 3) {
            Check.same("sweep behind " + calls, 2, bench.sweep(0, 1, 9, 2));
            Check.same("drop", 1, bench.drop(1));
            Check.same("drop", 0, bench.drop(0));
        }
        for (; calls < 511; calls++) {
            Check.same("count behind " + calls, 0, bench.count(4));
        }
        Check.same("the 512th call", 2, bench.sweep(0, 1, 9, 2));
        // However often something is reckoned or compiled, it is the same.
        MarkovBench again = Tape.compiled(X + A);
        for (int used = 5; used + 4 <= 512; used += 4) {
            Check.same("behind " + used, 46L, Tape.reckon(again, "1+2+3+4+5+6+7+8+9+1", 0));
        }
        String text = X + "gain g = 1" + " + 1".repeat(29) + "; do a when x < 9 go 100 set x = x + 1"
                + " + 1 - 1".repeat(14) + "; goal x = 8" + " + 1 - 1".repeat(14) + ";";
        int each = Tape.fives(text).length + 3;
        MarkovBench often = new MarkovBench();
        for (int used = 0; used + each <= 512; used += each) {
            Check.same("compile behind " + used, 0, Tape.compile(often, text));
            Check.same("states", 9, often.count(3));
        }
        Check.same("its gain", 30, often.gain(7, 0, 0));
        Check.same("its goal", -1, often.choices(8));
        MarkovBench full = new MarkovBench();
        for (int i = 0; i < 75; i++) {
            feedBlanks(full);
        }
        for (int i = 75; i < 512; i++) {
            Check.fails("refused call " + i, IllegalStateException.class,
                    () -> full.feed(0, 0, 0, 0, 0));
        }
    }

    private static void tape() {
        Sentences.of("Terms", TAPE);
        MarkovBench bench = new MarkovBench();
        Check.same("at first empty", 0, bench.count(5));
        Check.same("so that nothing is compiled", 1, bench.compile());
        Check.same("whose end is at 0", 0, bench.errorAt());
        for (int i = 1; i <= 75; i++) {
            Check.same("feed " + i, 20 * i, bench.feed(-1, -1, -1, -1, -1));
        }
        Check.same("1500 bytes", 1500, bench.count(5));
        Check.same("wrong ones", 1, bench.compile());
        Check.same("empty behind compile", 0, bench.count(5));
        String all = X + A;
        String most = all + " ".repeat(1499 - all.length()) + "\n";
        Check.same("1500 bytes are read", 0, Tape.compile(bench, most));
        most = X + " ".repeat(1500 - all.length()) + A.strip() + " ";
        Check.same("to the last but one", 0, Tape.compile(bench, most));
        most = X + " ".repeat(1500 - all.length() + 1) + A.strip();
        Check.same("bytes", 1500, most.length());
        Check.same("to the last one", 0, Tape.compile(bench, most));
        Check.same("a wrong last one", 1, Tape.compile(bench, most.substring(0, 1499) + "$"));
        Check.same("its place", 1499, bench.errorAt());
        Check.same("a program again", 0, Tape.compile(bench, most));
        String sum = "1" + " ".repeat(1497) + "+2";
        Check.same("test reads 1500 bytes", 3L, Tape.reckon(bench, sum, 0));
        Check.same("empty behind test", 0, bench.count(5));
        Check.same("test of 1500 with an error at the end", null,
                Tape.reckon(bench, sum.substring(0, 1499) + "y", 0));
        Check.same("its place", 1499, bench.errorAt());
        Check.same("empty behind a wrong test", 0, bench.count(5));
        for (int error = 0; error <= 9; error++) {
            Tape.compile(bench, ERRORS[error]);
            Check.same("empty behind error " + error, 0, bench.count(5));
            Check.same("what was there is not read again", 1, bench.compile());
            Check.same("since nothing is there", 0, bench.errorAt());
        }
    }

    private static void aNewObject() {
        Sentences.of("Promise 1",
                "`MarkovBench()`: Creates a bench without a program, with an empty tape; z is 0.");
        Check.same("z", 0, new MarkovBench().seed(1));
        Check.same("z beside other objects", 0, new MarkovBench().seed(0));
        MarkovBench bench = new MarkovBench();
        for (int what = 0; what < 6; what++) {
            Check.same("count " + what, 0, bench.count(what));
        }
        Check.same("trim to nothing", 0, bench.trim(0));
        Check.fails("trim to 1", IllegalArgumentException.class, () -> bench.trim(1));
        Benches.noIndexWithoutProgram("test", b -> b.test(0));
        Benches.noIndexWithoutProgram("value", b -> b.value(0, 0));
        Benches.noIndexWithoutProgram("choices", b -> b.choices(0));
        Benches.noIndexWithoutProgram("choice", b -> b.choice(0, 0, 0));
        Benches.noIndexWithoutProgram("gain", b -> b.gain(0, 0, 0));
        Benches.noIndexWithoutProgram("branch", b -> b.branch(0, 0, 0, true));
        Benches.noIndexWithoutProgram("weigh", b -> b.weigh(0, 0));
        Benches.noIndexWithoutProgram("takes", b -> b.takes(0, 0, 1));
        Benches.noIndexWithoutProgram("worth", b -> b.worth(0, 0, 0));
        Benches.noIndexWithoutProgram("brings", b -> b.brings(0, 0));
        Benches.noIndexWithoutProgram("chance", b -> b.chance(0));
        Benches.noIndexWithoutProgram("isWorthHaving", b -> b.isWorthHaving(0));
        Benches.noIndexWithoutProgram("sweep", b -> b.sweep(0, 1, 1, 1));
        Benches.noIndexWithoutProgram("mix", b -> b.mix(0, 0, 0, 0));
        Benches.noIndexWithoutProgram("bestMix", b -> b.bestMix(0, 1, 0));
        Benches.noIndexWithoutProgram("drop", b -> b.drop(0));
        Benches.noIndexWithoutProgram("play", b -> b.play(0));
        Benches.noIndexWithoutProgram("average", b -> b.average(0, 0, 1));
        Benches.noStateWithoutProgram("solve", b -> b.solve(1));
        Benches.noStateWithoutProgram("reach", b -> b.reach(0, true));
    }

    private static void feed() {
        Sentences.of("Promise 2", "`int feed(int a, int b, int c, int d, int e) throws "
                + "IllegalStateException`: Appends twenty bytes to the tape: the four bytes of each "
                + "number, the highest one first.");
        // A byte with which no token begins, wherever it stands, is where the error is.
        for (int place = 0; place < 20; place++) {
            for (int odd : new int[] {0, 1, '$', 127, 128, 255}) {
                Check.same("byte " + odd, place, placeOf(odd, place));
            }
        }
        Sentences.of("Promise 2", "- `a`: bytes 1 to 4");
        checkFour(0);
        Sentences.of("Promise 2", "- `b`: bytes 5 to 8");
        checkFour(1);
        Sentences.of("Promise 2", "- `c`: bytes 9 to 12");
        checkFour(2);
        Sentences.of("Promise 2", "- `d`: bytes 13 to 16");
        checkFour(3);
        Sentences.of("Promise 2", "- `e`: bytes 17 to 20");
        checkFour(4);
        Sentences.of("Promise 2", "Returns the number of bytes of the tape.");
        MarkovBench bench = new MarkovBench();
        Check.same("the first", 20, bench.feed(0, 0, 0, 0, 0));
        Check.same("the second", 40, bench.feed(-1, -1, -1, -1, -1));
        bench.trim(1);
        Check.same("behind trim", 21, bench.feed(0, 0, 0, 0, 0));
        bench.compile();
        Check.same("behind compile", 20, bench.feed(0, 0, 0, 0, 0));
        Sentences.of("Promise 2", "Throws `IllegalStateException` if there would be more than 1500");
        for (int bytes = 1481; bytes <= 1500; bytes++) {
            int there = bytes;
            Benches.noState("feed behind " + bytes, b -> b.feed(1, 2, 3, 4, 5), () -> filled(there));
        }
        Check.same("just 1500", 1500, filled(1480).feed(1, 2, 3, 4, 5));
        Check.same("one less", 1499, filled(1479).feed(1, 2, 3, 4, 5));
    }

    /** A bench with a program, and "7", blanks and "+8" on a tape of so many bytes. */
    private static MarkovBench filled(int bytes) {
        MarkovBench bench = Tape.compiled(X + A);
        Tape.put(bench, "7" + " ".repeat(bytes - 3) + "+8");
        return bench;
    }

    private static int placeOf(int odd, int place) {
        int[] five = {BLANKS, BLANKS, BLANKS, BLANKS, BLANKS};
        int shift = 24 - place % 4 * 8;
        five[place / 4] = five[place / 4] & ~(255 << shift) | odd << shift;
        MarkovBench bench = new MarkovBench();
        bench.feed(five[0], five[1], five[2], five[3], five[4]);
        Check.same("a wrong byte", 1, bench.compile());
        return bench.errorAt();
    }

    private static void checkFour(int number) {
        int[] five = {BLANKS, BLANKS, BLANKS, BLANKS, BLANKS};
        five[number] = 0x31323334;
        MarkovBench bench = Tape.compiled(X + A);
        bench.feed(five[0], five[1], five[2], five[3], five[4]);
        bench.trim(4 * number + 4);
        Check.same("all four", 0, bench.test(0));
        Check.same("what they are", 1234, bench.result());
        bench.feed(five[0], five[1], five[2], five[3], five[4]);
        bench.trim(4 * number + 1);
        Check.same("the first of them", 0, bench.test(0));
        Check.same("what it is", 1, bench.result());
        bench.feed(five[0], five[1], five[2], five[3], five[4]);
        bench.trim(4 * number);
        Check.same("nothing ahead of them", 1, bench.test(0));
    }

    private static void trim() {
        Sentences.of("Promise 3",
                "`int trim(int n) throws IllegalArgumentException`: Shortens the tape to its first bytes.");
        MarkovBench bench = Tape.compiled(X + A);
        Tape.put(bench, "1234567890");
        bench.trim(6);
        Check.same("the first six", 0, bench.test(0));
        Check.same("what they are", 123456, bench.result());
        Tape.put(bench, "99999999999999999999");
        bench.trim(1);
        feedBlanks(bench);
        Check.same("what was cut is gone", 0, bench.test(0));
        Check.same("one is left", 9, bench.result());
        Sentences.of("Promise 3", "- `n`: how many are kept");
        for (int n = 0; n <= 20; n++) {
            MarkovBench one = new MarkovBench();
            feedBlanks(one);
            one.trim(n);
            Check.same("kept", n, one.count(5));
        }
        Sentences.of("Promise 3", "Returns n.");
        for (int n = 0; n <= 20; n++) {
            MarkovBench one = new MarkovBench();
            feedBlanks(one);
            Check.same("trim to " + n, n, one.trim(n));
        }
        Check.same("trim to 1500 of 1500", 1500, filled(1500).trim(1500));
        Check.same("trim to 0 of 1500", 0, filled(1500).trim(0));
        Sentences.of("Promise 3",
                "Throws `IllegalArgumentException` if n is not 0 to the number of bytes of the tape");
        Check.same("all seven that are there", 7, Benches.ready().trim(7));
        for (int n : new int[] {-1, 8, 20, 1500, 1501, Integer.MIN_VALUE, Integer.MAX_VALUE}) {
            Benches.noArgument("trim to " + n, b -> b.trim(n));
        }
        for (int n : new int[] {-1, 7, Integer.MIN_VALUE, Integer.MAX_VALUE}) {
            Benches.refused("trim to " + n, IllegalArgumentException.class, b -> b.trim(n), Benches::fed);
        }
        for (int n : new int[] {-1, 1, Integer.MIN_VALUE, Integer.MAX_VALUE}) {
            Benches.refused("trim of an empty tape to " + n, IllegalArgumentException.class,
                    b -> b.trim(n), MarkovBench::new);
        }
        Check.same("nothing of an empty tape", 0, new MarkovBench().trim(0));
        Benches.refused("trim of 1500 to 1501", IllegalArgumentException.class, b -> b.trim(1501),
                () -> filled(1500));
    }

    private static void compile() {
        Sentences.of("Promise 4",
                "`int compile()`: Compiles the tape as a program, and explores its states.");
        MarkovBench bench = Tape.compiled(X + "do a when x < 9 go 100 set x = x + 1;");
        Check.same("all states, before any was asked", 10, bench.count(3));
        Sentences.of("Promise 4", "The program that was there, and all strategies, are gone in any "
                + "case, and all weights are 0.");
        for (int error = 0; error <= 9; error++) {
            MarkovBench one = Benches.ready();
            one.trim(0);
            Tape.compile(one, ERRORS[error]);
            int[] want = error == 0 ? new int[] {1, 0, 1, 1, 0, 0} : new int[6];
            for (int what = 0; what < 6; what++) {
                Check.same("behind error " + error + ": count " + what, want[what], one.count(what));
            }
            Check.fails("no strategy behind error " + error, IndexOutOfBoundsException.class,
                    () -> one.chance(0));
            Tape.compile(one, Benches.TWO);
            Check.same("the first weight behind error " + error, 0, one.weigh(0, 1));
            Check.same("the second one", 0, one.weigh(1, 1));
            Check.same("the first strategy", 0, one.solve(1));
        }
        Sentences.of("Promise 4", "Returns 0, or the error, 1 to 9.");
        for (int error = 0; error <= 9; error++) {
            Check.same("compile of " + ERRORS[error], error,
                    Tape.compile(new MarkovBench(), ERRORS[error]));
            Check.same("compile of nothing", 1, new MarkovBench().compile());
        }
    }

    private static void errorAt() {
        Sentences.of("Promise 5", "`int errorAt()`: Returns the position of the error of the latest "
                + "compile or test; -1 if it had none, or there was none.");
        MarkovBench bench = new MarkovBench();
        Check.same("there was none", -1, bench.errorAt());
        bench.feed(0, 0, 0, 0, 0);
        bench.trim(3);
        Check.same("none behind other calls", -1, bench.errorAt());
        bench.compile();
        Check.same("the least position", 0, bench.errorAt());
        Tape.compile(bench, " ".repeat(1500));
        Check.same("the greatest position", 1500, bench.errorAt());
        feedBlanks(bench);
        bench.trim(0);
        Check.same("it stays until the next one", 1500, bench.errorAt());
        Check.fails("a refused test", IndexOutOfBoundsException.class, () -> bench.test(0));
        Check.same("which is none", 1500, bench.errorAt());
        Tape.compile(bench, X + A);
        Check.same("a compile that had none", -1, bench.errorAt());
        Tape.reckon(bench, "12 + y", 0);
        Check.same("a test that had one", 5, bench.errorAt());
        Check.fails("a refused test", IndexOutOfBoundsException.class, () -> bench.test(1));
        Check.same("stays behind it", 5, bench.errorAt());
        Tape.reckon(bench, "12", 0);
        Check.same("a test that had none", -1, bench.errorAt());
        int[] places = {-1, 0, 5, 26, 8, 18, 24, 7, 46, 24};
        for (int error = 0; error <= 9; error++) {
            String text = ERRORS[error];
            Tape.compile(bench, text);
            Check.same("errorAt of " + text, places[error], bench.errorAt());
        }
    }

    /** As much of everything as there can be, on a tape that is 1500 bytes long again. */
    static MarkovBench greatest() {
        StringBuilder text = new StringBuilder("var a = 0 in 0 to 99; ");
        for (String name : new String[] {"b", "c", "d", "e"}) {
            text.append("var ").append(name).append(" = 0 in 0 to 1; ");
        }
        text.append("var f = -99 in -99 to 99; gain g = a; gain h = 1; gain i per c15 = f; ");
        text.append("do c0 when a < 99 go 25 set a = a + 1, f = f + 1 also go 25 also go 25 also go 25; ");
        for (int i = 1; i < 16; i++) {
            text.append("do c").append(i).append(" when 1 go 100; ");
        }
        MarkovBench bench = Tape.compiled(text.toString());
        for (int i = 0; i < 12; i++) {
            Check.same("strategy " + i, i, bench.solve(30));
        }
        Tape.put(bench, " ".repeat(1500));
        return bench;
    }

    /** 100 states with 16 choices of 4 branches each; the very last branch leads back to state 0. */
    static MarkovBench widest() {
        StringBuilder text = new StringBuilder("var a = 0 in 0 to 99; ");
        for (String name : new String[] {"b", "c", "d", "e"}) {
            text.append("var ").append(name).append(" = 0 in 0 to 1; ");
        }
        text.append("var f = -99 in -99 to 99; gain g = a; gain h = f; gain i per c15 = 1; ");
        text.append("do c0 when 1 go 25 set a = min(99, a + 1), f = min(0, f + 1) also go 25 also go 25 "
                + "also go 25; ");
        for (int i = 1; i < 16; i++) {
            text.append("do c").append(i).append(" when 1 go 25 also go 25 also go 25 also go 25");
            text.append(i == 15 ? " set f = -99, a = 0;" : "; ");
        }
        return Tape.compiled(text.toString());
    }

    private static void count() {
        Sentences.of("Promise 6", "`int count(int what) throws IndexOutOfBoundsException`: - `what`: "
                + "0 variables, 1 gains, 2 commands, 3 states, 4 strategies, 5 bytes of the tape");
        MarkovBench small = Tape.compiled(X + A);
        int[] least = {1, 0, 1, 1, 0, 0};
        int[] ready = {1, 2, 3, 3, 2, 7};
        for (int what = 0; what < 6; what++) {
            Check.same("as few as may be: " + what, least[what], small.count(what));
            Check.same("between: " + what, ready[what], Benches.ready().count(what));
        }
        Sentences.of("Promise 6", "Returns how many there are.");
        MarkovBench most = greatest();
        int[] all = {6, 3, 16, 100, 12, 1500};
        for (int what = 0; what < 6; what++) {
            Check.same("as many as may be: " + what, all[what], most.count(what));
            Check.same("none: " + what, 0, new MarkovBench().count(what));
        }
        Sentences.of("Promise 6", "Throws `IndexOutOfBoundsException` if what is not 0 to 5");
        for (int what : new int[] {-1, 6, 7, Integer.MIN_VALUE, Integer.MAX_VALUE}) {
            Benches.noIndex("count " + what, b -> b.count(what));
            Benches.noIndexWithoutProgram("count " + what, b -> b.count(what));
        }
    }

    private static void test() {
        Sentences.of("Promise 7", "`int test(int state) throws IndexOutOfBoundsException`: Reckons the "
                + "tape as an expression in a state.");
        MarkovBench most = greatest();
        most.trim(0);
        Check.same("in the first one", -99L, Tape.reckon(most, "a * 1000 + f", 0));
        Check.same("in the last one", 99000L, Tape.reckon(most, "a * 1000 + f", 99));
        Sentences.of("Promise 7", "- `state`: the state");
        for (int state = 0; state < 3; state++) {
            Check.same("x in state " + state, (long) state, Tape.reckon(unfed(), "x", state));
        }
        Sentences.of("Promise 7", "Returns 0, or the error, 1 or 2.");
        Benches.tests(0, Benches.TWO, "x");
        Benches.tests(1, Benches.TWO, "^");
        Benches.tests(1, Benches.TWO, "y + ^");
        Benches.tests(2, Benches.TWO, "x + ^y");
        Benches.tests(2, Benches.TWO, "^a");
        Benches.tests(2, Benches.TWO, "^fast");
        // What would be an error of a program is none of an expression.
        Benches.tests(0, Benches.TWO, "999999");
        Sentences.of("Promise 7", "Throws `IndexOutOfBoundsException` if there is no such state");
        for (int state : new int[] {-1, 3, 100, Integer.MIN_VALUE, Integer.MAX_VALUE}) {
            Benches.noIndex("test in " + state, b -> b.test(state));
        }
        Check.fails("test in 100 of 100", IndexOutOfBoundsException.class, () -> most.test(100));
    }

    private static MarkovBench unfed() {
        MarkovBench bench = Benches.ready();
        bench.trim(0);
        return bench;
    }

    private static void result() {
        Sentences.of("Promise 8", "`long result()`: Returns the number that test() reckoned last; 0 if "
                + "it had an error, or was never done.");
        Check.same("never done", 0, new MarkovBench().result());
        Check.same("never done, with a program", 0, Tape.compiled(X + A).result());
        MarkovBench bench = Tape.compiled(X + A);
        String least = "512 * 262144 * 262144 * 262144";
        Check.same("the least number", Long.MIN_VALUE, Tape.reckon(bench, least, 0));
        Check.same("the greatest number", Long.MAX_VALUE, Tape.reckon(bench, least + " - 1", 0));
        Check.same("it stays", Long.MAX_VALUE, bench.result());
        Check.fails("a refused test", IndexOutOfBoundsException.class, () -> bench.test(1));
        Check.same("stays behind it", Long.MAX_VALUE, bench.result());
        Tape.compile(bench, "$");
        Check.same("stays behind a wrong compile", Long.MAX_VALUE, bench.result());
        Tape.compile(bench, X + A);
        Check.same("stays behind a right compile", Long.MAX_VALUE, bench.result());
        Tape.put(bench, "1 +");
        Check.same("error 1", 1, bench.test(0));
        Check.same("0 behind it", 0, bench.result());
        Check.same("a number again", 5L, Tape.reckon(bench, "5", 0));
        Tape.put(bench, "y");
        Check.same("error 2", 2, bench.test(0));
        Check.same("0 behind that", 0, bench.result());
        Check.same("0 itself", 0L, Tape.reckon(bench, "5 - 5", 0));
    }
}
