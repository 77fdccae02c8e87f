/** The sentences on errors of meaning (2 to 7), their order, and what items tell. */
final class MeaningEdges {
    private static final String X = "var x = 0 in 0 to 9; ";
    private static final String A = "do a when 1 go 100; ";

    private MeaningEdges() { }

    static void run() {
        order();
        unknown();
        taken();
        tooMany();
        ranges();
        chancesTogether();
        nothing();
        variables();
        commands();
        gains();
        goals();
    }

    private static void right(String text) {
        Benches.compiles(0, text);
    }

    private static void wrong(int error, String marked) {
        Benches.compiles(error, marked);
    }

    private static void order() {
        Sentences.of("Terms", "Only if there is no error of form, the meaning is looked at, item by item, "
                + "in each from left to right: the first of these errors.");
        // Items with one error each, marked, as they stand behind X and A.
        String[] items = {"goal ^y; ", "gain ^x = 1; ", "var v = 0 in 0 to ^100; ",
            "do ^b when 1 go 99; ", "do c when 1 go 100 set ^z = 1; ", "gain g per ^none = 1; ",
            "do d when 1 go 50 also go ^0; ",
            "do e when 1 go 20 also go 20 also go 20 also go 20 also ^go 20; ",
            "var w = ^7 in 8 to 9; ", "do f when 1 go 100 set x = 1, ^x = 2; "};
        int[] errors = {2, 3, 5, 6, 2, 2, 5, 4, 5, 3};
        for (int i = 0; i < items.length; i++) {
            wrong(errors[i], X + A + items[i]);
            for (int j = 0; j < items.length; j++) {
                wrong(errors[i], X + A + items[i] + items[j].replace("^", ""));
            }
            // An error of form goes ahead, wherever it stands; no variables and no commands, behind.
            wrong(1, X + A + items[i].replace("^", "") + "^$");
            wrong(1, X + A + items[i].replace("^", "") + "goal 1^");
        }
        wrong(2, "goal ^x; " + A);
        wrong(5, X + "var y = 0 in 0 to ^100;");
        wrong(1, X + "do x when y go 0 set y = 1, y = 2 also^");
        // In an item, from left to right.
        wrong(3, X + "var ^x = 500 in 100 to -100; ");
        wrong(5, "var x = 500 in ^100 to -100; ");
        wrong(5, "var x = 500 in 99 to -^100; ");
        wrong(5, "var x = 500 in 99 to -^99; ");
        wrong(5, "var x = ^500 in -99 to 99; ");
        wrong(3, X + "gain ^x per none = y;");
        wrong(2, X + "gain g per ^none = y;");
        wrong(2, X + A + "gain g per a = ^y + z;");
        wrong(2, X + "goal x + ^y * z;");
        wrong(2, X + "goal max(^z, y);");
        wrong(3, X + "do ^x when y go 0 set z = 1;");
        wrong(2, X + "do a when ^y go 0 set z = 1;");
        wrong(5, X + "do a when 1 go ^0 set z = y;");
        wrong(2, X + "do a when 1 go 1 set ^z = y, x = 1, x = 1;");
        wrong(2, X + "do a when 1 go 1 set x = ^y, x = 1;");
        wrong(3, X + "do a when 1 go 1 set x = 1, ^x = y;");
        wrong(5, X + "do a when 1 go 1 set x = 1 also go ^101 set x = y;");
        wrong(2, X + "do a when 1 go 1 set x = ^y also go 0;");
        wrong(4, X + "do a when 1 go 1 also go 1 also go 1 also go 1 also ^go 0 set z = y;");
        wrong(2, X + "do a when 1 go 1 also go 1 also go 1 also go 1 set x = ^y also go 0;");
        wrong(4, X + A + "goal 1; ^goal y;");
    }

    private static void unknown() {
        Sentences.of("Terms", "Error 2 (at the name): a name in an expression, or behind set, that is no "
                + "variable that was told ahead; a name behind per that is no command of the program "
                + "(wherever it stands).");
        // In each kind of expression: not told, told later, a gain, a command, the item's own name.
        for (String name : new String[] {"y", "later", "g", "a", "h", "b"}) {
            String ahead = X + "gain g = 1; " + A;
            String behind = "var later = 0 in 0 to 9; ";
            wrong(2, ahead + "gain h = ^" + name + "; " + behind);
            wrong(2, ahead + "gain h per a = 1 - ^" + name + "; " + behind);
            wrong(2, ahead + "goal (^" + name + "); " + behind);
            wrong(2, ahead + "do b when not ^" + name + " go 100; " + behind);
            wrong(2, ahead + "do b when 1 go 100 set ^" + name + " = 1; " + behind);
            wrong(2, ahead + "do b when 1 go 100 set x = min(x, ^" + name + "); " + behind);
            wrong(2, ahead + "do b when 1 go 50 also go 50 set x = 1, ^" + name + " = 2; " + behind);
            Benches.tests(2, X + "gain g = 1; " + A + "do b when 1 go 100; gain h = 1;", "x * ^" + name);
        }
        right(X + "var y = 0 in 0 to 9; gain g = y; goal y; do a when y go 100 set y = y, x = y;");
        wrong(2, "goal ^x; " + X + A);
        wrong(2, "do a when 1 go 100 set ^x = 1; " + X);
        Benches.tests(0, "var u = 0 in 0 to 1; var v = 0 in 0 to 1; var w = 0 in 0 to 1; "
                + "var x = 0 in 0 to 1; var y = 0 in 0 to 1; var z = 0 in 0 to 1; " + A, "u+v+w+x+y+z");
        // Behind per: the first, the last, one told later; no variable, no gain, not itself.
        right(X + "gain g per a = 1; " + A + "do b when 1 go 100;");
        right(X + "gain g per b = 1; " + A + "do b when 1 go 100;");
        right(X + A + "do b when 1 go 100; gain g per a = 1; gain h per b = 1;");
        wrong(2, X + "gain h = 1; gain g per ^h = 1; " + A);
        wrong(2, X + "gain g per ^g = 1; " + A);
        wrong(2, X + "gain g per ^x = 1; " + A);
        wrong(2, X + "gain g per ^aa = 1; " + A);
        wrong(2, X + A + "gain g per ^b = 1;");
        // One letter of eight makes another name.
        wrong(2, "var abcdefgh = 0 in 0 to 9; goal ^abcdefgi; " + A);
        wrong(2, "var abcdefgh = 0 in 0 to 9; goal ^bbcdefgh; " + A);
        wrong(2, "var abcdefgh = 0 in 0 to 9; goal ^abcdefg; " + A);
        wrong(2, X + "gain g per ^abcdefgi = 1; do abcdefgh when 1 go 100;");
    }

    private static void taken() {
        Sentences.of("Terms", "Error 3 (at the name): a name that a variable, a gain or a command has "
                + "already, or a variable that is set twice in a branch.");
        String[] first = {"var n = 0 in 0 to 9; ", "gain n = 1; ", "do n when 1 go 100; "};
        String[] second = {"var ^n = 0 in 0 to 9; ", "gain ^n = 1; ", "do ^n when 1 go 100; ",
            "gain ^n per a = 1; "};
        for (String one : first) {
            right(X + A + one);
            for (String other : second) {
                wrong(3, X + A + one + other);
                wrong(3, one + X + A + other);
            }
        }
        // Just the first and the last of as many as there may be.
        String six = "";
        for (int i = 0; i < 6; i++) {
            six += "var x" + i + " = 0 in 0 to 9; ";
        }
        String sixteen = "";
        for (int i = 0; i < 16; i++) {
            sixteen += "do c" + i + " when 1 go 100; ";
        }
        String three = "gain g0 = 1; gain g1 = 1; gain g2 = 1; ";
        wrong(3, six + "do ^x0 when 1 go 100; ");
        wrong(3, six + "gain ^x5 = 1; ");
        wrong(3, X + sixteen + "gain ^c0 = 1;");
        wrong(3, X + sixteen + "var ^c15 = 0 in 0 to 9;");
        wrong(3, X + three + "do ^g0 when 1 go 100;");
        wrong(3, X + three + "var ^g2 = 0 in 0 to 9;");
        right(six + three + sixteen);
        wrong(3, X + "do a when 1 go 100 set x = 1, ^x = 1;");
        wrong(3, six + "do a when 1 go 100 set x5 = 1, x0 = 1, x1 = 1, x2 = 1, x3 = 1, x4 = 1, ^x5 = 1;");
        wrong(3, six + "do a when 1 go 100 set x0 = 1, x1 = 1, x2 = 1, x3 = 1, x4 = 1, x5 = 1, ^x0 = 1;");
        wrong(3, X + "do a when 1 go 25 set x = 1 also go 25 set x = 1 also go 25 set x = 1 also go 25 "
                + "set x = 1, ^x = 1;");
        right(six + "do a when 1 go 100 set x5 = 1, x0 = 1, x1 = 1, x2 = 1, x3 = 1, x4 = 1;");
        right(X + "do a when 1 go 50 set x = 1 also go 50 set x = 2; do b when 1 go 100 set x = 3;");
    }

    private static void tooMany() {
        Sentences.of("Terms", "Error 4 (at the first token of the item): one too many: a 7th variable, a "
                + "4th gain, a 17th command, a second goal; or a 5th branch of a command (at its \"go\").");
        String six = "";
        for (int i = 1; i <= 6; i++) {
            six += "var x" + i + " = 0 in 0 to 9; ";
            if (i == 5) {
                right(six + A);
            }
        }
        right(six + A);
        wrong(4, six + A + "^var y = 0 in 0 to 9;");
        wrong(4, six + "^var x1 = 500 in 100 to -100; " + A);
        String sixteen = "";
        for (int i = 1; i <= 16; i++) {
            sixteen += "do c" + i + " when 1 go 100; ";
            if (i == 15) {
                right(X + sixteen);
            }
        }
        right(X + sixteen);
        wrong(4, X + sixteen + "^do a when 1 go 100;");
        wrong(4, sixteen + X + "^do c1 when y go 0 set y = 1;");
        String gains = "gain g1 = 1; gain g2 = 2; ";
        right(X + A + gains);
        right(X + A + gains + "gain g3 = 3;");
        wrong(4, X + A + gains + "gain g3 = 3; ^gain g4 = 4;");
        wrong(4, X + A + gains + "gain g3 per a = 3; ^gain g1 per none = y;");
        right(X + A + "goal 0;");
        wrong(4, X + A + "goal 0; ^goal 0;");
        wrong(4, "goal 1; ^goal 1;");
        String three = "do b when 1 go 1 also go 2 also go 3 also go ";
        right(X + three + "94;");
        wrong(4, X + three + "93 also ^go 1;");
        wrong(4, X + three + "93 also ^go 1 also go 1;");
        wrong(4, X + three + "93 set x = 1 also ^go 0 set y = 1;");
        // Each command has its own branches.
        right(X + three + "94; " + three.replace("do b", "do c") + "94;");
    }

    private static void ranges() {
        Sentences.of("Terms", "Error 5 (at the number, without a sign ahead of it): bounds of a variable "
                + "that are not -99 to 99, or the greatest one less than the least one (at the greatest "
                + "one), a value at first that is not within them (looked at behind the bounds), or a "
                + "chance that is not 1 to 100.");
        right("var x = 0 in -99 to 99; " + A);
        right("var x = -99 in -99 to 99; " + A);
        right("var x = 99 in -99 to 99; " + A);
        right("var x = 99 in 99 to 99; " + A);
        right("var x = -99 in -99 to -99; " + A);
        right("var x = 98 in 98 to 99; " + A);
        right("var x = -98 in -99 to -98; " + A);
        right("var x = -0 in -0 to -0; " + A);
        for (String sign : new String[] {"-", "- ", "-\n ", ""}) {
            wrong(5, "var x = 0 in " + sign + "^100 to 99; " + A);
            wrong(5, "var x = 0 in " + sign + "^999999 to 99; " + A);
            wrong(5, "var x = 0 in -99 to " + sign + "^100; " + A);
            wrong(5, "var x = 0 in -99 to " + sign + "^999999; " + A);
            wrong(5, "var x = " + sign + "^100 in -99 to 99; " + A);
            wrong(5, "var x = " + sign + "^999999 in -99 to 99; " + A);
        }
        wrong(5, "var x = 0 in ^65536 to 99; " + A);
        wrong(5, "var x = 0 in 0 to ^256; " + A);
        wrong(5, "var x = 0 in 1 to ^0; " + A);
        wrong(5, "var x = 0 in 0 to -^1; " + A);
        wrong(5, "var x = 0 in 99 to ^98; " + A);
        wrong(5, "var x = 0 in -98 to -^99; " + A);
        wrong(5, "var x = 0 in 99 to -^99; " + A);
        for (int x = -3; x <= 3; x++) {
            String number = x < 0 ? "- ^" + -x : "^" + x;
            if (x < -1 || x > 1) {
                wrong(5, "var x = " + number + " in -1 to 1; " + A);
            } else {
                right("var x = " + number.replace("^", "") + " in -1 to 1; " + A);
            }
        }
        wrong(5, "var x = ^6 in 5 to 5; " + A);
        wrong(5, "var x = ^4 in 5 to 5; " + A);
        wrong(5, "var x = -^5 in 5 to 5; " + A);
        // The value is looked at behind both bounds.
        wrong(5, "var x = 500 in ^100 to 100; " + A);
        wrong(5, "var x = 500 in 0 to ^100; " + A);
        wrong(5, "var x = 500 in 1 to ^0; " + A);
        wrong(5, "var x = 1 in 1 to ^0; " + A);
        // The bounds themselves from left to right, each ahead of how they compare.
        wrong(5, "var x = 0 in ^100 to 0; " + A);
        wrong(5, "var x = 0 in ^100 to -100; " + A);
        wrong(5, "var x = 0 in 0 to -^100; " + A);
        right(X + "do a when 1 go 1 also go 99;");
        right(X + "do a when 1 go 99 also go 1;");
        right(X + "do a when 1 go 100;");
        for (String number : new String[] {"0", "101", "000000", "256", "999999"}) {
            wrong(5, X + "do a when 1 go ^" + number + ";");
            wrong(5, X + "do a when 1 go 100 also go ^" + number + ";");
            wrong(5, X + "do a when 1 go ^" + number + " also go 100 set x = y;");
        }
    }

    private static void chancesTogether() {
        Sentences.of("Terms", "Error 6 (at the name of the command): chances of its branches that are not "
                + "100 together; behind all errors within it.");
        wrong(6, X + "do ^a when 1 go 1;");
        wrong(6, X + "do ^a when 1 go 99;");
        wrong(6, X + "do ^a when 1 go 50 also go 49;");
        wrong(6, X + "do ^a when 1 go 50 also go 51;");
        wrong(6, X + "do ^a when 1 go 100 also go 1;");
        wrong(6, X + "do ^a when 1 go 100 also go 100;");
        wrong(6, X + "do ^a when 1 go 25 also go 25 also go 25 also go 24;");
        wrong(6, X + "do ^a when 1 go 25 also go 25 also go 25 also go 26;");
        wrong(6, X + "do ^a when 1 go 100 also go 100 also go 100 also go 100;");
        right(X + "do a when 1 go 25 also go 25 also go 25 also go 25;");
        right(X + "do a when 1 go 97 also go 1 also go 1 also go 1;");
        wrong(6, X + "do\n^command when 1 go 99; " + A);
        wrong(6, X + A + "do ^b when 0 go 99;");
        wrong(6, X + "do ^a when 1 go 99; do b when 1 go 1;");
        wrong(2, X + "do a when 1 go 99 set x = ^y;");
        wrong(3, X + "do a when 1 go 99 set x = 1, ^x = 1;");
        wrong(5, X + "do a when 1 go 99 also go ^0;");
        wrong(4, X + "do a when 1 go 99 also go 99 also go 99 also go 99 also ^go 99;");
        // Ahead of all errors behind it.
        wrong(6, X + "do ^a when 1 go 99; goal y; do a when 1 go 0;");
    }

    private static void nothing() {
        Sentences.of("Terms", "Error 7 (at the end of the tape): no variables, or no commands.");
        wrong(7, A.strip() + "^");
        wrong(7, A + "   \n^");
        wrong(7, X.strip() + "^");
        wrong(7, X + "  ^");
        wrong(7, "goal 1;^");
        wrong(7, "gain g = 1; goal 1;^");
        wrong(7, "goal 1;" + " ".repeat(1493) + "^");
        right(X + A);
        right(A + X);
        // Behind all other errors, those of exploring apart, which can't be without both.
        wrong(2, "gain g = ^x; ");
        wrong(3, "gain g = 1; gain ^g = 1;");
        wrong(5, "var x = 0 in 0 to ^100;");
        wrong(6, "do ^a when 1 go 99;");
    }

    private static void variables() {
        Sentences.of("Terms",
                "Items. var x = v in a to b: a variable with the value v at first, from a to b.");
        for (int v : new int[] {-99, -98, -1, 0, 1, 98, 99}) {
            MarkovBench bench = Tape.compiled("var x = " + v + " in -99 to 99; " + A);
            Check.same("the value at first", v, bench.value(0, 0));
        }
        right("var x = 0 in 0 to 2; do a when x < 2 go 100 set x = x + 1;");
        wrong(9, "var x = 0 in 0 to 1; do ^a when x < 2 go 100 set x = x + 1;");
        right("var x = 0 in -2 to 0; do a when x > -2 go 100 set x = x - 1;");
        wrong(9, "var x = 0 in -1 to 0; do ^a when x > -2 go 100 set x = x - 1;");
        Sentences.of("Terms", "Gains, commands and variables are numbered from 0 as they stand.");
        MarkovBench bench = Tape.compiled("do b when 1 go 100; gain h = 20; var z = 7 in 0 to 9; gain g "
                + "per a = 10; var y = 8 in 0 to 9; do a when 1 go 100; gain i = 30; var x = 9 in 0 to 9;");
        for (int i = 0; i < 3; i++) {
            Check.same("variable " + i, 7 + i, bench.value(0, i));
        }
        Check.same("command b", 0, bench.choice(0, 0, 0));
        Check.same("command a", 1, bench.choice(0, 1, 0));
        long[][] want = {{20, 0, 30}, {20, 10, 30}};
        for (int choice = 0; choice < 2; choice++) {
            for (int gain = 0; gain < 3; gain++) {
                Check.same("gain " + gain, want[choice][gain], bench.gain(0, choice, gain));
            }
        }
        Check.same("x stands last", 9L, Tape.reckon(bench, "x", 0));
    }

    private static void commands() {
        Sentences.of("Terms", "do c when e go p set x = f, ..: a command, which is enabled in a state if e "
                + "is true there; each branch has a chance in hundredths, and sets variables: all "
                + "expressions are reckoned in the state ahead of it.");
        MarkovBench bench = Tape.compiled("var x = 1 in 0 to 9; var y = 2 in 0 to 9; do a when 0 go 100; "
                + "do b when -1 go 100; do c when x - 1 go 100; do d when 65536 * 65536 * (x < 3) go 1 "
                + "set x = y, y = x also go 99 set x = y + 1; "
                + "do e when 65536 * 65536 * 65536 * 65536 go 100;");
        Check.same("true are b and d", 2, bench.choices(0));
        Check.same("b", 1, bench.choice(0, 0, 0));
        Check.same("d", 3, bench.choice(0, 1, 0));
        Check.same("the least chance", 1, bench.branch(0, 1, 0, true));
        Check.same("the other one", 99, bench.branch(0, 1, 1, true));
        Check.same("the greatest one", 100, bench.branch(0, 0, 0, true));
        Check.same("b sets nothing", 0, bench.branch(0, 0, 0, false));
        Check.same("d leads on", 1, bench.branch(0, 1, 0, false));
        Check.same("x is set to y", 2, bench.value(1, 0));
        Check.same("y is set to x as it was", 1, bench.value(1, 1));
        Check.same("the second branch sets x from the state ahead of it", 3, bench.value(2, 0));
        Check.same("and leaves y", 2, bench.value(2, 1));
        Check.same("c is enabled in state 1, too", 3, bench.choices(1));
    }

    private static void gains() {
        Sentences.of("Terms", "gain g = e: in each step in which a command is chosen, the gain g has the "
                + "value of e in the state ahead of it; with per c only if this command is chosen, "
                + "otherwise 0.");
        MarkovBench bench = Tape.compiled("var x = 5 in 5 to 9; gain g = x; gain h per b = 512 * 262144 * "
                + "262144 * 262144 + x; gain i per a = -x; do a when x < 9 go 100 set x = x + 1; do b when "
                + "1 go 100 set x = 9; do c when x = 9 go 100;");
        Check.same("a: the value ahead", 5, bench.gain(0, 0, 0));
        Check.same("b: the value ahead", 5, bench.gain(0, 1, 0));
        Check.same("a: not per b", 0, bench.gain(0, 0, 1));
        Check.same("b: per b", Long.MIN_VALUE + 5, bench.gain(0, 1, 1));
        Check.same("a: per a", -5, bench.gain(0, 0, 2));
        Check.same("b: not per a", 0, bench.gain(0, 1, 2));
        int last = bench.branch(0, 1, 0, false);
        Check.same("in another state b is the first choice", 1, bench.choice(last, 0, 0));
        Check.same("b there: per b", Long.MIN_VALUE + 9, bench.gain(last, 0, 1));
        Check.same("b there: not per a", 0, bench.gain(last, 0, 2));
        Check.same("c there: not per b", 0, bench.gain(last, 1, 1));
        Check.same("c there", 9, bench.gain(last, 1, 0));
        bench.weigh(0, 1);
        bench.solve(1);
        bench.play(0);
        Check.same("in one step", 5, bench.played(1));
        // A gain may stand ahead of its command, and be of the first or the last of 16.
        StringBuilder text = new StringBuilder(X + "gain first per c0 = 7; gain last per c15 = 8; ");
        for (int i = 0; i < 16; i++) {
            text.append("do c").append(i).append(" when 1 go 100; ");
        }
        MarkovBench wide = Tape.compiled(text.toString());
        for (int i = 0; i < 16; i++) {
            Check.same("per the first", i == 0 ? 7 : 0, wide.gain(0, i, 0));
            Check.same("per the last", i == 15 ? 8 : 0, wide.gain(0, i, 1));
        }
    }

    private static void goals() {
        Sentences.of("Terms", "goal e: states in which e is true are goals; without it none are.");
        String line = "var x = 0 in 0 to 2; do a when x < 2 go 100 set x = x + 1; ";
        int[][] want = {{1, 1, 0}, {-1}, {1, -1}, {1, 1, -1}, {-1}, {1, -1}, {-1}, {1, 1, 0}, {1, 1, 0}};
        String[] goals = {"", "goal x = 0;", "goal x;", "goal x = 2;", "goal -1;", "goal -x;",
            "goal 65536 * 65536;", "goal 65536 * 65536 * 65536 * 65536;", "goal 0;"};
        for (int i = 0; i < goals.length; i++) {
            MarkovBench bench = Tape.compiled(line + goals[i]);
            Check.same("states by " + goals[i], want[i].length, bench.count(3));
            for (int state = 0; state < want[i].length; state++) {
                Check.same("choices by " + goals[i], want[i][state], bench.choices(state));
            }
        }
        // The goal of the program before is gone.
        MarkovBench bench = Tape.compiled(line + "goal 1;");
        Tape.compile(bench, line);
        Check.same("no goal", 1, bench.choices(0));
        Check.same("so none is reached", 0, bench.reach(30, false));
    }
}
