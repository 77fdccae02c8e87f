/** Benches in which every part holds something else than a new one, and calls that they refuse. */
final class Benches {
    /** Three states, of which the last is a goal; fast and slow lead from state 0, on from 1. */
    static final String TWO = "var x = 0 in 0 to 2; gain a = 3; gain b per slow = 5; "
            + "do fast when x = 0 go 100 set x = 1; "
            + "do slow when x = 0 go 30 set x = 1 also go 70 set x = 2; "
            + "do on when x = 1 go 100 set x = 2; goal x = 2;";

    interface Maker {
        MarkovBench make();
    }

    interface Act {
        Object on(MarkovBench bench);
    }

    private static final Maker[] WITH_PROGRAM = {Benches::ready, Benches::erring};
    private static final Maker[] WITHOUT_PROGRAM = {MarkovBench::new, Benches::fed, Benches::broken};

    private Benches() { }

    /** Without a program, but with a tape. */
    static MarkovBench fed() {
        MarkovBench bench = new MarkovBench();
        bench.seed(-5);
        Tape.put(bench, "40 + 2");
        return bench;
    }

    /** A program, two strategies of 2 and 3 steps, a play, a result, and an expression on the tape. */
    static MarkovBench ready() {
        MarkovBench bench = Tape.compiled(TWO);
        Check.same("a result", 42L, Tape.reckon(bench, "x + 40", 2));
        prepare(bench);
        return bench;
    }

    /** As ready, but the latest test had an error. */
    static MarkovBench erring() {
        MarkovBench bench = Tape.compiled(TWO);
        Check.same("an error", null, Tape.reckon(bench, "x + y", 2));
        prepare(bench);
        return bench;
    }

    /** As ready, but with as many strategies as are kept. */
    static MarkovBench crowded() {
        MarkovBench bench = ready();
        for (int i = 2; i < 12; i++) {
            Check.same("one more strategy", i, bench.solve(1));
        }
        return bench;
    }

    /** No program any more, since the latest one was wrong; a result, a position and a tape. */
    static MarkovBench broken() {
        MarkovBench bench = ready();
        bench.trim(0);
        Check.same("a wrong program", 5, Tape.compile(bench, "var x = 0 in 0 to 100;"));
        Tape.put(bench, "40 + 2");
        return bench;
    }

    private static void prepare(MarkovBench bench) {
        bench.weigh(0, 3);
        bench.weigh(1, -4);
        bench.solve(2);
        bench.weigh(1, 9);
        bench.solve(3);
        bench.seed(12345);
        bench.play(1);
        Tape.put(bench, "x + 41 ");
    }

    /** The call must throw this, and nothing may be otherwise than if it had not been made. */
    static void refused(String what, Class<? extends Exception> want, Act act, Maker... makers) {
        for (Maker maker : makers) {
            MarkovBench asked = maker.make();
            Check.fails(what, want, () -> act.on(asked));
            String wanted = Story.of(maker.make());
            Check.same("a change by the refused " + what, "",
                    Story.difference(wanted, Story.of(asked)));
        }
    }

    static void noIndex(String what, Act act) {
        refused(what, IndexOutOfBoundsException.class, act, WITH_PROGRAM);
    }

    static void noArgument(String what, Act act) {
        refused(what, IllegalArgumentException.class, act, WITH_PROGRAM);
    }

    static void noState(String what, Act act, Maker... makers) {
        refused(what, IllegalStateException.class, act, makers);
    }

    /** Without a program there is no such number, whichever it is. */
    static void noIndexWithoutProgram(String what, Act act) {
        refused(what + " without a program", IndexOutOfBoundsException.class, act, WITHOUT_PROGRAM);
    }

    static void noArgumentWithoutProgram(String what, Act act) {
        refused(what + " without a program", IllegalArgumentException.class, act, WITHOUT_PROGRAM);
    }

    static void noStateWithoutProgram(String what, Act act) {
        refused(what + " without a program", IllegalStateException.class, act, WITHOUT_PROGRAM);
    }

    /** The first ^ is the mark; another one may be in the text itself. */
    private static String unmarked(String marked) {
        return marked.replaceFirst("\\^", "");
    }

    /** Compiles a text; if it has an error, ^ marks the place of it. */
    static void compiles(int error, String marked) {
        MarkovBench bench = new MarkovBench();
        Check.same("compile of " + marked, error, Tape.compile(bench, unmarked(marked)));
        Check.same("errorAt of " + marked, marked.indexOf('^'), bench.errorAt());
    }

    /** The same for an expression by itself, in state 0 of a program. */
    static void tests(int error, String program, String marked) {
        MarkovBench bench = Tape.compiled(program);
        Tape.put(bench, unmarked(marked));
        Check.same("test of " + marked, error, bench.test(0));
        Check.same("errorAt of " + marked, marked.indexOf('^'), bench.errorAt());
    }
}
