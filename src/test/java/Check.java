import java.util.Objects;

/** Counts what was asked, and prints each answer that is not the one that is due. */
final class Check {
    private static int asked = 0;
    private static int wrong = 0;

    interface Call {
        Object get();
    }

    private Check() { }

    static void same(String what, Object want, Object got) {
        asked++;
        if (!Objects.equals(plain(want), plain(got))) {
            wrong++;
            System.out.println(Sentences.now() + what + " answered " + got + ", due is " + want);
        }
    }

    /** The very class counts: what the machine throws is of another one. */
    static void fails(String what, Class<? extends Exception> want, Call call) {
        Object got;
        try {
            got = call.get();
        } catch (RuntimeException e) {
            got = e.getClass();
        }
        same(what, want, got);
    }

    /** The call must throw this, and change nothing that can be asked. */
    static void refused(MarkovBench bench, String what, Class<? extends Exception> want, Call call) {
        String before = Tape.picture(bench);
        fails(what, want, call);
        same("what stands behind the refused " + what, before, Tape.picture(bench));
    }

    static void noState(MarkovBench bench, String what, Call call) {
        refused(bench, what, IllegalStateException.class, call);
    }

    static void noIndex(MarkovBench bench, String what, Call call) {
        refused(bench, what, IndexOutOfBoundsException.class, call);
    }

    static void noArgument(MarkovBench bench, String what, Call call) {
        refused(bench, what, IllegalArgumentException.class, call);
    }

    static void end() {
        System.out.println(asked + " answers, " + wrong + " wrong");
        if (wrong > 0 || asked == 0) {
            System.exit(1);
        }
    }

    static int wrongs() {
        return wrong;
    }

    static int asked() {
        return asked;
    }

    private static Object plain(Object x) {
        return x instanceof Integer i ? Long.valueOf(i) : x;
    }
}
