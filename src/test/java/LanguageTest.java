/**
 * The language, as compile and test read it (promises 4, 5, 7 and 8). In a text that has an error,
 * ^ marks the place where it is met.
 */
public final class LanguageTest {
    private static final String X = "var x = 0 in 0 to 9; ";
    private static final String A = "do a when 1 go 100; ";

    private static final MarkovBench BENCH = new MarkovBench();

    public static void main(String[] args) {
        tokens();
        form();
        depth();
        lengthOfExpressions();
        unknownNames();
        takenNames();
        tooMany();
        ranges();
        chancesTogether();
        nothing();
        firstOfSeveral();
        exploring();
        values();
        wrapping();
        Check.end();
    }

    private static void right(String text) {
        Check.same("compile of " + text, 0, Tape.compile(BENCH, text));
        Check.same("errorAt of " + text, -1, BENCH.errorAt());
    }

    private static void wrong(int error, String marked) {
        String text = marked.replace("^", "");
        Check.same("compile of " + marked, error, Tape.compile(BENCH, text));
        Check.same("errorAt of " + marked, marked.indexOf('^'), BENCH.errorAt());
    }

    private static void tokens() {
        right("var x=0in 0to 9;do a when 1go 100;");
        right("\n var\nx = 0 in 0 to 9 ;\n\ndo a when 1 go 100\n;\n ");
        right("var abcdefgh = 000000 in 0 to 000009; do a1234567 when 1 go 000100;");
        right("var varx = 0 in 0 to 9; do x when varx go 100;");
        wrong(1, "var ^abcdefghi = 0 in 0 to 9; " + A);
        wrong(1, "var ^a12345678 = 0 in 0 to 9; " + A);
        wrong(1, "var x = ^0000000 in 0 to 9; " + A);
        wrong(1, X + "do a when ^1234567 go 100; ");
        wrong(1, X + "do a when 1 ^go100; ");
        wrong(1, "^varx = 0 in 0 to 9; " + A);
        wrong(1, "var x ^9 = 0 in 0 to 9; " + A);
        wrong(1, "var ^9x = 0 in 0 to 9; " + A);
        wrong(1, "var ^X = 0 in 0 to 9; " + A);
        wrong(1, "var x^Y = 0 in 0 to 9; " + A);
        wrong(1, "var x^\t= 0 in 0 to 9; " + A);
        wrong(1, "var x = 0 in 0 to 9;^\r\n" + A);
        wrong(1, "var x^\0 = 0 in 0 to 9; " + A);
        wrong(1, "var x^_ = 0 in 0 to 9; " + A);
        wrong(1, "var x = 0 in 0 to 9;^\u00a0" + A);
        wrong(1, X + "^: " + A);
        wrong(1, X + A + "goal 1 ^! 2;");
        right(X + A + "goal 1<=2;");
        wrong(1, X + A + "goal 1 < ^= 2;");
        wrong(1, X + A + "goal 1 > ^= 2;");
        wrong(1, X + A + "goal 1 < ^> 2;");
        wrong(1, X + A + "goal 1 = ^> 2;");
        wrong(1, X + A + "goal 1 <= ^> 2;");
        right(X + A + "goal 1<-2;");
        right(X + A + "goal 1>-2;");
    }

    private static void form() {
        wrong(1, "^");
        wrong(1, "  \n ^");
        wrong(1, "^; ");
        wrong(1, "^x");
        wrong(1, "var ^");
        wrong(1, "var ^min = 0 in 0 to 9; " + A);
        wrong(1, "var ^per = 0 in 0 to 9; " + A);
        wrong(1, "var x ^in 0 to 9; " + A);
        wrong(1, "var x = ^y in 0 to 9; " + A);
        wrong(1, "var x = -^-1 in 0 to 9; " + A);
        wrong(1, "var x = ^+1 in 0 to 9; " + A);
        wrong(1, "var x = 1 ^+ 1 in 0 to 9; " + A);
        wrong(1, "var x = 0 ^to 9; " + A);
        wrong(1, "var x = 0 in 0 ^in 9; " + A);
        wrong(1, "var x = 0 in 0 to ^; " + A);
        wrong(1, "var x = 0 in 0 to 9 ^do a when 1 go 100;");
        wrong(1, "var x = 0 in 0 to 9  ^");
        wrong(1, X + "gain ^= 1; " + A);
        wrong(1, X + "gain g ^1; " + A);
        wrong(1, X + "gain g per ^= 1; " + A);
        wrong(1, X + "gain g per a ^per a = 1; " + A);
        wrong(1, X + "gain g = ^; " + A);
        wrong(1, X + "goal ^; " + A);
        wrong(1, X + "goal ^= 1; " + A);
        wrong(1, X + "goal 1 ^goal 1; " + A);
        wrong(1, X + "do ^when 1 go 100;");
        wrong(1, X + "do a ^go 100;");
        wrong(1, X + "do a when ^go 100;");
        wrong(1, X + "do a when 1^;");
        wrong(1, X + "do a when 1 go ^- 100;");
        wrong(1, X + "do a when 1 go ^(100);");
        wrong(1, X + "do a when 1 go ^;");
        wrong(1, X + "do a when 1 go 100 ^go 100;");
        wrong(1, X + "do a when 1 go 50 also ^set x = 1;");
        wrong(1, X + "do a when 1 go 100 set ^;");
        wrong(1, X + "do a when 1 go 100 set x ^+ 1;");
        wrong(1, X + "do a when 1 go 100 set x = ^;");
        wrong(1, X + "do a when 1 go 100 set x = 1, ^;");
        wrong(1, X + "do a when 1 go 100 set x = 1 ^set x = 2;");
        wrong(1, X + "do a when 1 go 100 set x = 1 ^");
        wrong(1, X + A + "goal 1 = 1 ^= 1;");
        wrong(1, X + A + "goal 1 < 2 ^< 3;");
        right(X + A + "goal (1 < 2) < 3;");
        right(X + A + "goal 1 < 2 and 2 < 3 or 3 <> 4;");
        wrong(1, X + A + "goal 1 + ^* 2;");
        wrong(1, X + A + "goal (1^;");
        wrong(1, X + A + "goal 1^);");
        wrong(1, X + A + "goal (1^, 2);");
        wrong(1, X + A + "goal (^);");
        wrong(1, X + A + "goal min ^1, 2;");
        wrong(1, X + A + "goal min(1^);");
        wrong(1, X + A + "goal max(1, 2^, 3);");
        wrong(1, X + A + "goal abs(1^, 2);");
        wrong(1, X + A + "goal 1 ^not 1;");
        wrong(1, X + A + "goal not ^;");
        wrong(1, X + A + "goal 1 ^2;");
        wrong(1, X + A + "goal x ^(1);");
        lone("^");
        lone("  ^");
        lone("1^;");
        lone("1 ^1");
        lone("1 + ^");
        lone("1 +   ^");
        lone("min(1, 2^");
        lone("1^,2");
        lone("^goal");
    }

    /** An expression by itself that has error 1. */
    private static void lone(String marked) {
        MarkovBench bench = Tape.compiled(X + A);
        Tape.put(bench, marked.replace("^", ""));
        Check.same("test of " + marked, 1, bench.test(0));
        Check.same("errorAt of " + marked, marked.indexOf('^'), bench.errorAt());
    }

    private static void depth() {
        String eight = "((((((((";
        right(X + A + "goal " + eight + "x)))))))) ;");
        wrong(1, X + A + "goal " + eight + "^(x))))))))) ;");
        right(X + A + "goal --------x;");
        wrong(1, X + A + "goal --------^-x;");
        right(X + A + "goal not not not not not not not not x;");
        wrong(1, X + A + "goal not not not not not not not not ^not x;");
        wrong(1, X + A + "goal " + eight + "^-x)))))))) ;");
        wrong(1, X + A + "goal " + eight + "^not x)))))))) ;");
        wrong(1, X + A + "goal " + eight + "abs^(x))))))))) ;");
        wrong(1, X + A + "goal " + eight + "min^(x, 1))))))))) ;");
        wrong(1, X + A + "goal " + eight + "max ^1)))))))) ;");
        right(X + A + "goal (((((((abs(x)))))))) ;");
        right(X + A + "goal min(1, max(2, abs(-(-(not x)))));");
        wrong(1, X + A + "goal min(1, max(2, abs(-(-(not ^(x))))));");
        // Behind its ")" or its operand the depth is less again.
        right(X + A + "goal " + eight + "x)))))))) + " + eight + "x)))))))) ;");
        right(X + A + "goal --------x - --------x ;");
        right(X + A + "goal (((((((-x) + (x)) + (x)) * -x) - (x)) + -x) + (x));");
        // Each expression begins with 0.
        right(X + "do a when " + eight + "x)))))))) go 100 set x = " + eight + "x)))))))) ;");
    }

    private static void lengthOfExpressions() {
        String most = "-1" + "+1".repeat(29);
        right(X + A + "goal " + most + ";");
        wrong(1, X + A + "goal " + most + "^+1;");
        wrong(1, X + A + "goal 1" + "+1".repeat(29) + "+^1;");
        right(X + A + "goal 1" + "+1".repeat(29) + ";");
        right(X + A + "goal min(" + most.substring(0, 2 + 2 * 26) + ", x);");
        right(X + A + "goal (" + most.substring(0, 2 + 2 * 27) + ") + 1;");
        wrong(1, X + A + "goal (" + most.substring(0, 2 + 2 * 28) + ") ^+ 1;");
        wrong(1, X + A + "goal (1" + "+1".repeat(29) + "^);");
        wrong(1, X + A + "goal " + most + "  ^");
        wrong(1, X + A + "goal " + most + " ^go 1;");
        // Each one has its own tokens.
        right("var x = 0 in -99 to 99; var y = 0 in -99 to 99; do a when " + most + " go 50 set x = "
                + most + ", y = " + most + " also go 50 set x = " + most + "; gain g = " + most + ";");
        MarkovBench bench = Tape.compiled(X + A);
        Check.same("60 tokens", 28L, Tape.reckon(bench, most, 0));
        Tape.put(bench, most + " + 1");
        Check.same("62 tokens", 1, bench.test(0));
        Check.same("the 61st", most.length() + 1, bench.errorAt());
        Tape.put(bench, "1" + "+1".repeat(30));
        Check.same("61 tokens", 1, bench.test(0));
        Check.same("the 61st of them", 60, bench.errorAt());
    }

    private static void unknownNames() {
        wrong(2, X + "goal ^y; " + A);
        wrong(2, "goal ^x; " + X + A);
        wrong(2, "gain g = 1 + ^x; " + X + A);
        wrong(2, A.replace("1 go", "^x go") + X);
        wrong(2, X + "do a when ^a go 100;");
        wrong(2, X + "gain g = 1; goal ^g; " + A);
        wrong(2, X + "gain g = ^g; " + A);
        wrong(2, X + "do a when 1 go 100 set ^y = 1; var y = 0 in 0 to 9;");
        wrong(2, X + "do a when 1 go 100 set x = 1, ^y = 1;");
        wrong(2, X + "do a when 1 go 100 set x = x + ^y, y = 1;");
        wrong(2, X + "do a when 1 go 100 set ^a = 1;");
        wrong(2, X + "do a when 1 go 50 also go 50 set x = max(1, abs(^y));");
        wrong(2, X + "gain g per ^b = 1; " + A);
        wrong(2, X + "gain g per ^x = 1; " + A);
        wrong(2, X + "gain g per ^g = 1; " + A);
        right(X + "gain g per a = 1; " + A);
        right(X + A + "gain g per a = 1; ");
        // A name behind "do" counts wherever it stands, though it is taken itself.
        wrong(3, X + "gain g per x = 1; do ^x when 1 go 100;");
    }

    private static void takenNames() {
        wrong(3, X + "var ^x = 0 in 0 to 9; " + A);
        wrong(3, X + "gain ^x = 0; " + A);
        wrong(3, X + "do ^x when 1 go 100; ");
        wrong(3, X + "gain g = 1; var ^g = 0 in 0 to 9; " + A);
        wrong(3, X + "gain g = 1; gain ^g = 1; " + A);
        wrong(3, X + "gain g = 1; do ^g when 1 go 100; " + A);
        wrong(3, X + A + "var ^a = 0 in 0 to 9;");
        wrong(3, X + A + "gain ^a = 0;");
        wrong(3, X + A + "do ^a when 1 go 100;");
        wrong(3, X + "do a when 1 go 100 set x = 1, ^x = 2;");
        wrong(3, X + "var y = 0 in 0 to 1; do a when 1 go 100 set x = 1, y = 1, ^x = 2;");
        right(X + "var y = 0 in 0 to 1; do a when 1 go 50 set x = 1, y = 1 also go 50 set x = 2;");
        right(X + "do a when 1 go 100 set x = 1; do b when 1 go 100 set x = 2;");
        right("var abcdefgh = 0 in 0 to 1; var abcdefgg = 0 in 0 to 1; " + A);
    }

    private static void tooMany() {
        String six = "";
        String sixteen = "";
        for (int i = 0; i < 6; i++) {
            six += "var x" + i + " = 0 in 0 to 1; ";
        }
        for (int i = 0; i < 16; i++) {
            sixteen += "do c" + i + " when 1 go 100; ";
        }
        right(six + A);
        wrong(4, six + "^var y = 0 in 0 to 1; " + A);
        wrong(4, six + A + "^var x0 = 100 in 0 to 1;");
        right(X + "gain f = 1; gain g = 1; gain h = 1; " + A);
        wrong(4, X + "gain f = 1; gain g = 1; gain h = 1; " + A + "^gain f per q = y;");
        right(X + sixteen);
        wrong(4, X + sixteen + "^do c0 when y go 1;");
        right(X + A + "goal 0;");
        wrong(4, X + A + "goal 0; ^goal y;");
        wrong(4, "goal 0; ^goal y;" + X + A);
        right(X + "do a when 1 go 25 also go 25 also go 25 also go 25;");
        wrong(4, X + "do a when 1 go 25 also go 25 also go 25 also go 25 also ^go 0 set y = 1;");
        wrong(4, X + "do a when 1 go 25 also go 25 also go 25 also go 24 also ^go 1;");
    }

    private static void ranges() {
        right("var x = -99 in -99 to 99; " + A);
        right("var x = 99 in 99 to 99; " + A);
        right("var x = -99 in -99 to -99; " + A);
        right("var x = -0 in -0 to 0; " + A);
        wrong(5, "var x = 0 in -^100 to 99; " + A);
        wrong(5, "var x = 0 in - ^100 to 99; " + A);
        wrong(5, "var x = 0 in ^100 to 99; " + A);
        wrong(5, "var x = 0 in -99 to ^100; " + A);
        wrong(5, "var x = 0 in -99 to -^100; " + A);
        wrong(5, "var x = 0 in -99 to ^999999; " + A);
        wrong(5, "var x = 0 in 5 to ^4; " + A);
        wrong(5, "var x = 0 in -4 to -^5; " + A);
        wrong(5, "var x = ^10 in 0 to 9; " + A);
        wrong(5, "var x = -^1 in 0 to 9; " + A);
        wrong(5, "var x = ^4 in 5 to 9; " + A);
        // The value at first is looked at behind the bounds.
        wrong(5, "var x = 500 in 0 to ^200; " + A);
        wrong(5, "var x = 500 in ^200 to 100; " + A);
        wrong(5, "var x = 500 in 9 to ^0; " + A);
        wrong(5, X + "do a when 1 go ^0;");
        wrong(5, X + "do a when 1 go ^101;");
        wrong(5, X + "do a when 1 go 99 also go ^0 set y = 1;");
        right(X + "do a when 1 go 1 also go 99;");
    }

    private static void chancesTogether() {
        wrong(6, X + "do ^a when 1 go 99;");
        wrong(6, X + "do ^a when 1 go 100 also go 1;");
        wrong(6, X + A + "do ^b when 1 go 33 also go 33 also go 33;");
        // Behind all errors within the command, but ahead of those behind it.
        wrong(2, X + "do a when 1 go 99 set ^y = 1;");
        wrong(4, X + "do a when 1 go 1 also go 1 also go 1 also go 1 also ^go 1;");
        wrong(6, X + "do ^a when 1 go 99; goal y;");
    }

    private static void nothing() {
        wrong(7, "do a when 1 go 100;  ^");
        wrong(7, X + "goal 1;\n^");
        wrong(7, "goal 1;^");
        wrong(7, "gain g = 1; goal 1;^");
        wrong(2, "gain g = ^x;  ");
    }

    private static void firstOfSeveral() {
        // An error of form stands ahead of all errors of meaning.
        wrong(1, "goal y; var x = 500 in 0 to 9; do a when 1 go 0 set^");
        wrong(1, "goal y; goal z; ^$");
        wrong(2, "goal ^y; var x = 500 in 0 to 9; do a when 1 go 0;");
        wrong(5, X + "do a when 1 go ^0 set y = 1;");
        wrong(2, X + "do a when ^y go 0;");
        wrong(3, X + "do ^x when y go 0;");
        wrong(3, X + "var ^x = 500 in 0 to 900;");
        wrong(3, X + "gain ^x per q = y;");
        wrong(2, X + "gain g per ^q = y;");
        wrong(6, X + "do ^a when 1 go 5; do a when 1 go 5;");
        wrong(4, X + A + "goal 1; ^goal 1; var x = 0 in 0 to 9;");
    }

    private static void exploring() {
        right("var x = 0 in 0 to 99; do a when x < 99 go 100 set x = x + 1;");
        Check.same("as many states as may be", 100, BENCH.count(3));
        wrong(8, "var x = -1 in -1 to 99; do ^a when x < 99 go 100 set x = x + 1;");
        wrong(8, "var x = -1 in -1 to 99; do b when 0 go 100 set x = 1000; "
                + "do ^a when x < 99 go 50 also go 50 set x = x + 1; do c when x = 99 go 100;");
        wrong(9, "var x = 0 in 0 to 3; do ^a when 1 go 100 set x = x + 1;");
        wrong(9, "var x = 0 in 0 to 3; do ^a when 1 go 100 set x = x - 1;");
        wrong(9, "var x = 0 in 0 to 3; do a when 1 go 100; do ^b when 1 go 50 also go 50 set x = 4;");
        wrong(9, "var x = 0 in 0 to 3; do ^a when 1 go 100 set x = 999999 * 999999;");
        wrong(9, "var x = 0 in 0 to 3; do ^a when 1 go 100 set x = 65536 * 65536;");
        right("var x = 0 in 0 to 3; do a when x > 3 go 100 set x = 4;");
        right("var x = 0 in 0 to 3; do a when 1 go 100 set x = x + 1; goal x = 3;");
        right("var x = 0 in 0 to 3; do a when 1 go 100 set x = 7; goal x = 0;");
        // Whichever is met first: commands and branches in their order, states in theirs.
        wrong(9, "var x = 0 in 0 to 99; var y = 0 in 0 to 9; "
                + "do up when 1 go 100 set x = (x + 1) % 100, y = y + (x + 1) / 100; "
                + "do ^out when x = 98 go 100 set x = 100;");
        wrong(8, "var x = 0 in 0 to 99; var y = 0 in 0 to 9; "
                + "do ^up when 1 go 100 set x = (x + 1) % 100, y = y + (x + 1) / 100; "
                + "do out when x = 99 go 100 set x = 100;");
        wrong(9, "var x = 0 in 0 to 99; var y = 0 in 0 to 9; "
                + "do ^out when x = 99 go 100 set x = 100; "
                + "do up when 1 go 100 set x = (x + 1) % 100, y = y + (x + 1) / 100; ");
        // A goal has no choices, so no branches are followed there.
        right("var x = 0 in 0 to 1; do a when x = 0 go 100 set x = 1; "
                + "do b when x = 1 go 100 set x = 2; goal x;");
        wrong(9, "var x = 0 in 0 to 1; do a when x = 0 go 100 set x = 1; "
                + "do ^b when x = 1 go 100 set x = 2; goal x = 2;");
    }

    private static void is(MarkovBench bench, long want, String text) {
        Check.same(text, want, Tape.reckon(bench, text, 0));
    }

    private static void values() {
        MarkovBench bench = Tape.compiled("var x = 7 in 0 to 9; var y = -3 in -9 to 9; " + A);
        is(bench, 7, "x");
        is(bench, -3, "y");
        is(bench, 10, "20 - 6 - 4");
        is(bench, 18, "20 - (6 - 4)");
        is(bench, 5, "100 / 10 / 2");
        is(bench, 8, "100 / 25 * 2");
        is(bench, 4, "100 % 7 * 2");
        is(bench, 7, "1 + 2 * 3");
        is(bench, 9, "(1 + 2) * 3");
        is(bench, -2, "-7 / 3");
        is(bench, -1, "-7 % 3");
        is(bench, 1, "7 % -3");
        is(bench, -2, "7 / y");
        is(bench, 0, "7 / 0");
        is(bench, 0, "7 % 0");
        is(bench, 0, "-7 / (x - 7)");
        is(bench, -4, "- x - y");
        is(bench, 4, "--x+y");
        is(bench, -21, "-x * -y");
        is(bench, 1, "x = 7");
        is(bench, 0, "x = 8");
        is(bench, 1, "x <> 8");
        is(bench, 0, "x <> 7");
        is(bench, 1, "y < -2");
        is(bench, 0, "y < -3");
        is(bench, 0, "x < 5");
        is(bench, 0, "x<5");
        is(bench, 1, "x<>5");
        is(bench, 0, "5>x");
        is(bench, 1, "7>=x");
        is(bench, 1, "7<=x");
        is(bench, 1, "x > 6");
        is(bench, 0, "x > 7");
        is(bench, 1, "x <= 7");
        is(bench, 0, "x <= 6");
        is(bench, 1, "x >= 7");
        is(bench, 0, "x >= 8");
        is(bench, 1, "1 + 1 = 2");
        is(bench, 0, "1 + 1 = 3");
        is(bench, 0, "3 = 1 + 1");
        is(bench, 1, "4 - 2 * 2 = 0 * 5");
        is(bench, 2, "1 + (1 = 1)");
        is(bench, 1, "2 and -1");
        is(bench, 0, "2 and 0");
        is(bench, 0, "0 and 2");
        is(bench, 1, "0 or 5");
        is(bench, 1, "5 or 0");
        is(bench, 0, "0 or 0");
        is(bench, 1, "1 or 1 and 0");
        is(bench, 0, "(1 or 1) and 0");
        is(bench, 1, "1 = 2 or 2 = 2");
        is(bench, 1, "1 < 2 and 2 < 3");
        is(bench, 0, "not 5");
        is(bench, 1, "not 0");
        is(bench, 1, "not not 5");
        is(bench, 1, "not 0 = 1");
        is(bench, 0, "not (0 = 0)");
        is(bench, 2, "not 0 + 1");
        is(bench, -1, "- not 0");
        is(bench, -3, "min(x, y)");
        is(bench, 7, "max(x, y)");
        is(bench, 7, "max(y, x)");
        is(bench, 3, "abs(y)");
        is(bench, 3, "abs(-y)");
        is(bench, 1, "min(1 or 0, 2 < 1 or 5)");
        is(bench, 14, "max(min(1, 2), abs(y) + 1) * 2 + 6");
    }

    private static void wrapping() {
        MarkovBench bench = Tape.compiled(X + A);
        String least = "512 * 262144 * 262144 * 262144";
        is(bench, Long.MIN_VALUE, least);
        is(bench, Long.MAX_VALUE, least + " - 1");
        is(bench, Long.MIN_VALUE, "-(" + least + ")");
        is(bench, Long.MIN_VALUE, "abs(" + least + ")");
        is(bench, Long.MIN_VALUE, "(" + least + ") / -1");
        is(bench, 0, "(" + least + ") % -1");
        is(bench, 1, least + " < 0");
        is(bench, 999999L * 999999L * 999999L * 999999L, "999999 * 999999 * 999999 * 999999");
        is(bench, Long.MIN_VALUE / 1000, "(" + least + ") / 1000");
        is(bench, Long.MIN_VALUE % 1000, "(" + least + ") % 1000");
    }
}
