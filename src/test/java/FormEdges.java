import java.util.Arrays;

/** The sentences on tokens, grammar, depth, length and errors of form, and on what operators yield. */
final class FormEdges {
    private static final String X = "var x = 0 in 0 to 9; ";
    private static final String A = "do a when 1 go 100; ";
    private static final String[] KEYWORDS = ("var in to gain per goal do when go set also and or not "
            + "min max abs").split(" ");
    // One token of each kind: a name, a number, and what is no token or one that is too long, too.
    private static final String[] KINDS = ("var in to gain per goal do when go set also and or not "
            + "min max abs ( ) ; : , = + - * / % < > <= >= <> q 7 $ abcdefghi 1234567").split(" ");
    private static final String FIRST = " ( - not min max abs q 7 ";
    private static final String WITHOUT_RELATION = " or and + - * / % ";
    private static final String OPERATORS = WITHOUT_RELATION + "= <> < > <= >= ";
    private static final String ITEMS = " var gain goal do ";
    private static final String LEAST = "(512 * 262144 * 262144 * 262144)";
    // 59 tokens.
    private static final String LONG = "1" + " + 1".repeat(29);

    private FormEdges() { }

    static void run() {
        positions();
        blanks();
        longestToken();
        words();
        numbers();
        symbols();
        keywords();
        grammarOfItems();
        grammarOfExpressions();
        grouping();
        yields();
        reckonedAlways();
        depth();
        length();
        errorOne();
    }

    private static void right(String text) {
        Benches.compiles(0, text);
    }

    private static void wrong(String marked) {
        Benches.compiles(1, marked);
    }

    /** An expression, both in a program and by itself. */
    private static void rightPart(String text) {
        Benches.compiles(0, X + A + "goal " + text + " ;");
        Benches.tests(0, X + A, text);
    }

    private static void wrongPart(String marked) {
        Benches.compiles(1, X + A + "goal " + marked + ";");
        Benches.tests(1, X + A, marked);
    }

    private static void is(long want, String text) {
        MarkovBench bench = Tape.compiled(X + A);
        Check.same(text, want, Tape.reckon(bench, text, 0));
        // The same in a program, where its value is that of a gain.
        bench = Tape.compiled(X + A + "gain g = " + text + ";");
        Check.same("as a gain: " + text, want, bench.gain(0, 0, 0));
    }

    private static void positions() {
        Sentences.of("Terms", "Positions are counted from 0, in bytes.");
        for (int at = 0; at < 25; at++) {
            wrong(" ".repeat(at) + "^$");
            wrong("\n".repeat(at) + "^$ $");
        }
        wrong(" ".repeat(1499) + "^$");
        wrong("^" + "$".repeat(1500));
        wrong("\n \n^" + (char) 255 + (char) 255);
        Sentences.plain("Terms", "A program is a row of tokens.");
    }

    private static void blanks() {
        Sentences.of("Terms", "Blanks (32) and line ends (10) can stand between tokens, at the "
                + "beginning and at the end, and have to stand between two tokens that would otherwise "
                + "be read as one.");
        for (int one = 0; one < 256; one++) {
            char c = (char) one;
            if (one == 32 || one == 10) {
                right(c + X + A);
                right(X + c + A);
                right(X + A + c);
                right((X + A).replace(' ', c));
                right("" + c + c + (X + A).replace(" ", "" + c + c) + c + c);
            } else {
                wrong("^" + c + " " + X + A);
                wrong(X + "^" + c + " " + A);
                wrong(X + A + "^" + c);
                wrong(X + A + " ^" + c + " ");
            }
        }
        right("var x=0in 0to 9;do a when 1go 100;");
        right("var x = - 0 in\n-\n9 to 9 ;do a when-1go 100;");
        rightPart("-x+(1)*x<=-not(x)and x>=min(1,x)or-1<>x");
        wrong("^varx = 0 in 0 to 9; " + A);
        wrong("var x = 0 ^in0 to 9; " + A);
        wrong("var x = 0 in 0 ^to9; " + A);
        wrong(X + "^doa when 1 go 100;");
        wrong(X + "do awhen ^1 go 100;");
        wrong(X + "do a ^when1 go 100;");
        wrong(X + "do a when 1 ^go100;");
        wrong(X + "do a when 1 go 100 ^setx = 1;");
        wrong(X + "do a when 1 go 50 ^alsogo 50;");
        wrong(X + "^goal1; " + A);
        wrong(X + "gain g ^pera = 1; " + A);
        wrongPart("1 ^or1");
        wrongPart("1 ^and1");
        wrongPart("1 < ^= 2");
        wrongPart("1 > ^= 2");
        wrongPart("1 < ^> 2");
        wrongPart("1 ^2");
        rightPart("12");
        MarkovBench bench = Tape.compiled("var x = 3 in 0 to 9; var notx = 5 in 0 to 9; var x1 = 7 in 0 "
                + "to 9; " + A);
        Check.same("a name that begins with a keyword", 5L, Tape.reckon(bench, "notx", 0));
        Check.same("a keyword and a name", 0L, Tape.reckon(bench, "not x", 0));
        Check.same("a name that ends with a digit", 7L, Tape.reckon(bench, "x1", 0));
        Check.same("one number", 12L, Tape.reckon(bench, "12", 0));
    }

    private static void longestToken() {
        Sentences.of("Terms", "The longest possible token is always read.");
        is(1, "1<=1");
        is(0, "1<>1");
        is(1, "1>=1");
        is(0, "1<-1");
        is(1, "1>-1");
        wrongPart("1=^>2");
        wrongPart("1=^<2");
        wrongPart("1=^=2");
        wrongPart("1>^<2");
        wrongPart("1>^>2");
        wrongPart("1<^<2");
        wrongPart("1<=^>2");
        wrongPart("1<>^=2");
        wrongPart("1<=^=2");
        // Not the two words or numbers that it could be cut into.
        wrongPart("^absabsabs(1)");
        wrongPart("1 + ^1234561234561");
        wrong(X + "^dodo a when 1 go 100;");
        wrong(X + A + "goal ^minminmin(1, 2);");
        // A word does not begin in a number, but follows it.
        right("var x = 0in 0to 9; do a when 1or 0go 100;");
        wrong("var ^1x = 0 in 0 to 9; " + A);
        right("var x1or = 0 in 0 to 9; do a when x1or go 100;");
    }

    private static void words() {
        Sentences.of("Terms",
                "A word: a letter a to z, followed by letters a to z and digits, at most 8 bytes in all.");
        for (int one = 0; one < 256; one++) {
            char c = (char) one;
            if (c == ' ' || c == '\n') {
                continue;
            }
            boolean isLetter = c >= 'a' && c <= 'z';
            boolean isDigit = c >= '0' && c <= '9';
            if (isLetter) {
                right("var " + c + " = 0 in 0 to 9; " + A.replace("do a", "do command"));
            } else {
                wrong("var ^" + c + " = 0 in 0 to 9; " + A);
            }
            if (isLetter || isDigit) {
                right("var x" + c + " = 0 in 0 to 9; " + A);
                right("var longest" + c + " = 0 in 0 to 9; " + A);
                wrong("var ^longest8" + c + " = 0 in 0 to 9; " + A);
            } else if (c != '=') {
                wrong("var x^" + c + " = 0 in 0 to 9; " + A);
                wrong("var longest8^" + c + " = 0 in 0 to 9; " + A);
            }
        }
        right("var a = 0 in 0 to 9; do b when a go 100 set a = a;");
        right("var abcdefgh = 0 in 0 to 9; do z2345678 when abcdefgh go 100 set abcdefgh = abcdefgh;");
        right("var abcdefgh = 0 in 0 to 9; var abcdefgi = 0 in 0 to 9; var bbcdefgh = 0 in 0 to 9; " + A);
        wrong(X + "gain ^abcdefghi = 1; " + A);
        wrong(X + "gain g per ^abcdefghi = 1; " + A);
        wrong(X + "do ^abcdefghi when 1 go 100; ");
        wrong(X + "do a when 1 go 100 set ^abcdefghi = 1;");
        wrongPart("1 + ^abcdefghi");
        wrongPart("^" + "a".repeat(1400));
    }

    private static void numbers() {
        Sentences.of("Terms", "A number: 1 to 6 digits.");
        for (int digits = 1; digits <= 6; digits++) {
            is(Long.parseLong("9".repeat(digits)), "9".repeat(digits));
            is(1, "0".repeat(digits - 1) + "1");
            is(0, "0".repeat(digits));
        }
        for (int digits : new int[] {7, 8, 12, 18, 19, 20, 64, 1400}) {
            wrongPart("^" + "0".repeat(digits - 1) + "1");
            wrongPart("1 + ^" + "9".repeat(digits));
        }
        right("var x = 000000 in 000000 to 000009; do a when 1 go 000100;");
        wrong("var x = ^0000000 in 0 to 9; " + A);
        wrong("var x = 0 in ^0000000 to 9; " + A);
        wrong("var x = 0 in 0 to ^0000009; " + A);
        wrong(X + "do a when 1 go ^0000100;");
        is(0, "1/2");
        wrongPart("1^:2");
    }

    private static void symbols() {
        Sentences.of("Terms", "Symbols: ( ) ; : , = + - * / % < > <= >= <>");
        for (int one = 0; one < 256; one++) {
            char c = (char) one;
            if (c == ' ' || c == '\n') {
                continue;
            }
            boolean isLetterOrDigit = c >= 'a' && c <= 'z' || c >= '0' && c <= '9';
            boolean isOperator = "=+-*/%<>".indexOf(c) >= 0;
            if (isOperator) {
                rightPart("1 " + c + " 2");
                rightPart("1" + c + "2");
            } else if (!isLetterOrDigit) {
                Benches.tests(1, X + A, "1 ^" + c + " 2");
                Benches.tests(1, X + A, "1^" + c + "2");
                // In a program ";" ends the item, and the next one begins wrong.
                wrong(X + A + "goal 1" + (c == ';' ? ";^2;" : "^" + c + "2;"));
            }
        }
        rightPart("(1)");
        rightPart("min(1,2)");
        rightPart("1 <= 2");
        rightPart("1 >= 2");
        rightPart("1 <> 2");
        // ":" is a symbol that no rule has.
        wrong("^: " + X + A);
        wrong(X + "^: " + A);
        wrong("var x ^:= 0 in 0 to 9; " + A);
        wrong("var x = 0 in 0 to 9 ^: " + A);
        wrong(X + "do a ^: when 1 go 100;");
        wrong(X + "do a when 1 go 100^:");
        wrongPart("^:");
    }

    private static void keywords() {
        Sentences.of("Terms", "The keywords are: var in to gain per goal do when go set also and or not "
                + "min max abs. All other words are names.");
        for (String keyword : KEYWORDS) {
            wrong("var ^" + keyword + " = 0 in 0 to 9; " + A);
            wrong(X + "gain ^" + keyword + " = 1; " + A);
            wrong(X + "gain g per ^" + keyword + " = 1; " + A);
            wrong(X + "do ^" + keyword + " when 1 go 100;");
            wrong(X + "do a when 1 go 100 set ^" + keyword + " = 1;");
            boolean isOfFactor = FIRST.contains(" " + keyword + " ");
            if (!isOfFactor) {
                wrongPart("1 + ^" + keyword);
            }
            // One letter more, or one less, is a name.
            right("var " + keyword + "x = 0 in 0 to 9; " + A + "goal " + keyword + "x;");
            right("var " + keyword + "1 = 0 in 0 to 9; " + A + "goal " + keyword + "1;");
            right("var x" + keyword + " = 0 in 0 to 9; " + A + "goal x" + keyword + ";");
            String less = keyword.substring(0, keyword.length() - 1);
            right("var " + less + " = 0 in 0 to 9; do c when " + less + " go 100;");
            // Letters A to Z are none.
            wrong("var ^" + keyword.toUpperCase() + " = 0 in 0 to 9; " + A);
        }
        right("var g = 0 in 0 to 9; var d = 0 in 0 to 9; do o when g go 100; do i when d go 100;");
    }

    /**
     * Behind this beginning, each of all kinds of tokens: those that are told may come, and all
     * others have error 1 at their place, also the end of the tape, which is told by "end".
     */
    private static void follow(String beginning, String allowed) {
        String ahead = beginning.isEmpty() ? "" : beginning + " ";
        for (String kind : KINDS) {
            boolean isAllowed = (" " + allowed + " ").contains(" " + kind + " ");
            checkFollow(ahead + kind, ahead.length(), isAllowed);
        }
        checkFollow(ahead, ahead.length(), (" " + allowed + " ").contains(" end "));
    }

    private static void checkFollow(String text, int at, boolean isAllowed) {
        MarkovBench bench = new MarkovBench();
        int error = Tape.compile(bench, text);
        boolean isRefused = error == 1 && bench.errorAt() == at;
        Check.same("at " + at + " it may be so: " + text, isAllowed, !isRefused);
    }

    private static void grammarOfItems() {
        Sentences.of("Terms", "Grammar. [ x ] means x or nothing, { x } means x any number of times, "
                + "also none, and | separates alternatives; keywords and symbols of the language are in "
                + "quotation marks.");
        right(X + "gain g = 1; do a when 1 go 100;");
        right(X + "gain g per a = 1; do a when 1 go 100 set x = 1;");
        right(X + "var y = 0 in 0 to 9; var z = 0 in 0 to 9; do a when 1 or 0 or 1 go 30 also go 30 "
                + "set x = 1 also go 40 set z = 1, x = 1, y = 1;");
        wrong("^\"var\" x = 0 in 0 to 9; " + A);
        wrong("^[ var x = 0 in 0 to 9; ]" + A);
        wrong("^{ var x = 0 in 0 to 9; }" + A);
        wrong("^| " + X + A);
        Sentences.of("Terms", "program = item { item }");
        wrong("^");
        follow("", ITEMS);
        follow("goal 7 ;", ITEMS + "end");
        follow("goal 7 ; goal 7 ;", ITEMS + "end");
        Benches.compiles(4, "goal 1;^" + "goal 1;".repeat(213));
        Sentences.of("Terms", "item = \"var\" name \"=\" whole \"in\" whole \"to\" whole \";\" | \"gain\" "
                + "name [ \"per\" name ] \"=\" expression \";\" | \"goal\" expression \";\" | \"do\" name "
                + "\"when\" expression branch { \"also\" branch } \";\"");
        follow("var", "q");
        follow("var x", "=");
        follow("var x =", "- 7");
        follow("var x = 7", "in");
        follow("var x = 7 in", "- 7");
        follow("var x = 7 in 0", "to");
        follow("var x = 7 in 0 to", "- 7");
        follow("var x = 7 in 0 to 9", ";");
        follow("var x = 7 in 0 to 9 ;", ITEMS + "end");
        follow("gain", "q");
        follow("gain g", "per =");
        follow("gain g per", "q");
        follow("gain g per a", "=");
        follow("gain g =", FIRST);
        follow("gain g per a =", FIRST);
        follow("gain g = 7", ";" + OPERATORS);
        follow("gain g = 7 ;", ITEMS + "end");
        follow("goal", FIRST);
        follow("goal 7", ";" + OPERATORS);
        follow("do", "q");
        follow("do a", "when");
        follow("do a when", FIRST);
        follow("do a when 7", "go" + OPERATORS);
        follow("do a when 7 go 100", "set also ;");
        follow("do a when 7 go 50 also", "go");
        follow("do a when 7 go 50 also go 50", "set also ;");
        follow("do a when 7 go 50 also go 50 ;", ITEMS + "end");
        Sentences.of("Terms", "branch = \"go\" number [ \"set\" name \"=\" expression { \",\" name \"=\" "
                + "expression } ]");
        follow("do a when 7 go", "7");
        follow("do a when 7 go 100 set", "q");
        follow("do a when 7 go 100 set x", "=");
        follow("do a when 7 go 100 set x =", FIRST);
        follow("do a when 7 go 100 set x = 7", ", also ;" + OPERATORS);
        follow("do a when 7 go 100 set x = 7 ,", "q");
        follow("do a when 7 go 100 set x = 7 , y", "=");
        follow("do a when 7 go 100 set x = 7 , y =", FIRST);
        follow("do a when 7 go 100 set x = 7 , y = 7", ", also ;" + OPERATORS);
        follow("do a when 7 go 100 set x = 7 , y = 7 also", "go");
        Sentences.of("Terms", "whole = [ \"-\" ] number");
        follow("var x = -", "7");
        follow("var x = - 7", "in");
        follow("var x = 7 in -", "7");
        follow("var x = 7 in - 7", "to");
        follow("var x = 7 in 0 to -", "7");
        follow("var x = 7 in 0 to - 7", ";");
    }

    private static void grammarOfExpressions() {
        Sentences.of("Terms", "expression = both { \"or\" both }");
        follow("goal 7 or", FIRST);
        follow("goal 7 or 7", ";" + OPERATORS);
        rightPart("1" + " or 1".repeat(29));
        Sentences.of("Terms", "both = relation { \"and\" relation }");
        follow("goal 7 and", FIRST);
        follow("goal 7 and 7", ";" + OPERATORS);
        rightPart("1" + " and 1".repeat(29));
        Sentences.of("Terms", "relation = sum [ ( \"=\" | \"<>\" | \"<\" | \">\" | \"<=\" | \">=\" ) sum ]");
        for (String relation : "= <> < > <= >=".split(" ")) {
            follow("goal 7 " + relation, FIRST);
            follow("goal 7 " + relation + " 7", ";" + WITHOUT_RELATION);
            follow("goal 7 " + relation + " 7 or 7", ";" + OPERATORS);
            follow("goal 7 " + relation + " 7 and 7", ";" + OPERATORS);
            follow("goal 7 " + relation + " 7 + 7 * 7", ";" + WITHOUT_RELATION);
            follow("goal ( 7 " + relation + " 7 )", ";" + OPERATORS);
        }
        Sentences.of("Terms", "sum = product { ( \"+\" | \"-\" ) product }");
        follow("goal 7 +", FIRST);
        follow("goal 7 + 7", ";" + OPERATORS);
        follow("goal 7 -", FIRST);
        follow("goal 7 - 7", ";" + OPERATORS);
        is(30, LONG);
        is(-28, LONG.replace('+', '-'));
        Sentences.of("Terms", "product = factor { ( \"*\" | \"/\" | \"%\" ) factor }");
        for (String operator : "* / %".split(" ")) {
            follow("goal 7 " + operator, FIRST);
            follow("goal 7 " + operator + " 7", ";" + OPERATORS);
        }
        is(1 << 29, LONG.replace('+', '*').replace(" 1", " 2"));
        Sentences.of("Terms", "factor = number | name | \"(\" expression \")\" | \"-\" factor | \"not\" "
                + "factor | ( \"min\" | \"max\" ) \"(\" expression \",\" expression \")\" | \"abs\" \"(\" "
                + "expression \")\"");
        follow("goal q", ";" + OPERATORS);
        follow("goal (", FIRST);
        follow("goal ( 7", ")" + OPERATORS);
        follow("goal ( 7 )", ";" + OPERATORS);
        follow("goal -", FIRST);
        follow("goal - 7", ";" + OPERATORS);
        follow("goal not", FIRST);
        follow("goal not 7", ";" + OPERATORS);
        for (String two : "min max".split(" ")) {
            follow("goal " + two, "(");
            follow("goal " + two + " (", FIRST);
            follow("goal " + two + " ( 7", "," + OPERATORS);
            follow("goal " + two + " ( 7 ,", FIRST);
            follow("goal " + two + " ( 7 , 7", ")" + OPERATORS);
            follow("goal " + two + " ( 7 , 7 )", ";" + OPERATORS);
        }
        follow("goal abs", "(");
        follow("goal abs (", FIRST);
        follow("goal abs ( 7", ")" + OPERATORS);
        follow("goal abs ( 7 )", ";" + OPERATORS);
    }

    private static void grouping() {
        Sentences.of("Terms", "Operators of one level group from the left.");
        is(10, "20 - 6 - 4");
        is(5, "20 - 16 + 1");
        is(5, "100 / 10 / 2");
        is(8, "100 / 25 * 2");
        is(4, "100 % 7 * 2");
        is(1, "100 * 2 % 7 / 3");
        is(2, "17 % 10 % 5");
        is(0, "8 / 9 * 9");
        is(1, "2 = 2 and 3 = 3 and 4 = 4");
        // The levels, the loosest one first, whichever comes first.
        is(1, "1 or 0 and 0");
        is(1, "0 and 0 or 1");
        is(1, "1 and 2 = 2");
        is(1, "3 = 3 and 3");
        is(1, "3 = 1 + 2");
        is(1, "2 + 1 = 3");
        is(7, "1 + 2 * 3");
        is(7, "2 * 3 + 1");
        is(3, "- 1 + 4");
        is(-4, "- 2 * 2");
        is(2, "not 0 + 1");
        is(0, "not 0 = 5");
        is(0, "not 3 and 0");
        is(4, "abs(0 - 1) + max(1, 2) + min(1, 2)");
    }

    private static void yields() {
        Sentences.of("Terms", "A relation, and, or, not yield 1 or 0; a number other than 0 is true; / and "
                + "% by 0 yield 0, and % has the sign of the left operand.");
        String[] relations = {"=", "<>", "<", ">", "<=", ">="};
        long[][] numbers = {{5, 7}, {7, 5}, {7, 7}};
        int[][] want = {{0, 1, 1, 0, 1, 0}, {0, 1, 0, 1, 0, 1}, {1, 0, 0, 0, 1, 1}};
        for (int i = 0; i < numbers.length; i++) {
            for (int j = 0; j < relations.length; j++) {
                is(want[i][j], numbers[i][0] + " " + relations[j] + " " + numbers[i][1]);
                is(want[i][j], "-" + numbers[i][1] + relations[j] + "-" + numbers[i][0]);
            }
        }
        is(1, LEAST + " < " + LEAST + " - 1");
        is(0, LEAST + " > " + LEAST + " - 1");
        is(1, LEAST + " <= 0");
        is(0, LEAST + " >= 1");
        is(1, "5 and 7");
        is(1, "-5 and 7");
        is(1, "5 or 7");
        is(1, "0 or -7");
        is(0, "0 or 0");
        is(0, "7 and 0");
        is(0, "0 and 7");
        is(0, "0 and 0");
        is(0, "not 5");
        is(0, "not -1");
        is(0, "not 1");
        is(1, "not 0");
        is(1, LEAST + " and 65536 * 65536");
        is(1, "65536 * 65536 or 0");
        is(0, "not (65536 * 65536)");
        is(0, "65536 * 65536 * 65536 * 65536 or 0");
        is(0, "7 / 0");
        is(0, "-7 / 0");
        is(0, "0 / 0");
        is(0, "7 % 0");
        is(0, "-7 % 0");
        is(0, "0 % 0");
        is(0, LEAST + " / 0");
        is(0, LEAST + " % 0");
        is(0, "7 / (5 - 5)");
        is(0, "5 / x");
        is(1, "7 % 3");
        is(1, "7 % -3");
        is(-1, "-7 % 3");
        is(-1, "-7 % -3");
        is(0, "-6 % 3");
        is(-3, "-3 % 7");
        is(3, "3 % -7");
        is(Long.MIN_VALUE % 1000, LEAST + " % 1000");
        is(0, LEAST + " % -1");
        is(7, "min(7, 8)");
        is(7, "min(8, 7)");
        is(8, "max(7, 8)");
        is(-8, "min(-7, -8)");
        is(Long.MIN_VALUE, "min(" + LEAST + ", " + LEAST + " - 1)");
        is(Long.MAX_VALUE, "max(" + LEAST + ", " + LEAST + " - 1)");
        is(7, "abs(-7)");
        is(0, "abs(0)");
    }

    private static void reckonedAlways() {
        Sentences.of("Terms", "Both operands are always reckoned.");
        Benches.compiles(2, X + A + "goal 0 and ^y;");
        Benches.compiles(2, X + A + "goal 1 or ^y;");
        Benches.tests(2, X + A, "0 and ^y");
        Benches.tests(2, X + A, "1 or ^y");
        Benches.tests(2, X + A, "0 * ^y");
        is(0, "0 and 7 / 0");
        is(1, "1 or 7 % 0");
        is(1, "7 / 0 or 1");
    }

    private static void depth() {
        Sentences.of("Terms", "Depth. It is 0 at the beginning of an expression, and 1 greater between a "
                + "\"(\" in it and its \")\", and for the operand of a \"-\" or \"not\" (in front).");
        String eight = "((((((((";
        String closed = "))))))))";
        // Between two numbers "-" is not in front, and behind the ")" or the operand it is less again.
        is(0, eight + "1 - 1" + closed);
        is(0, eight + "1" + closed + " - " + eight + "1" + closed);
        is(-2, "--------1 - --------" + "3");
        is(2, "(((((((-1) + 1) + 1) * -1) - 1) + -1) + 5)");
        is(-2, "-(((((((1 + 1)))))))");
        is(1, "not not not not(((-1)))");
        rightPart("-(-(-(-(1)) + ----1))");
        wrongPart("-(-(-(-(1)) + ----^-1))");
        right(X + "gain g = " + eight + "1" + closed + "; goal " + eight + "0" + closed + "; do a when "
                + eight + "1" + closed + " go 50 set x = " + eight + "1" + closed + " also go 50 set x = "
                + eight + "1" + closed + ";");
        right(X + "var y = 0 in 0 to 9; do a when 1 go 100 set x = --------1, y = --------1;");
        Sentences.of("Terms", "It may be at most 8.");
        String[] openings = {"(", "-", "not ", "abs(", "min(0, ", "max("};
        String[] closings = {")", "", "", ")", ")", ", 0)"};
        for (int outer = 0; outer < openings.length; outer++) {
            for (int inner = 0; inner < openings.length; inner++) {
                for (int times = 0; times <= 8; times++) {
                    checkDepth(openings, closings, outer, times, inner);
                }
            }
        }
        wrongPart(eight + "^(1)" + closed);
        wrongPart(eight + "abs^(1)" + closed);
        wrongPart("--------^-1");
        wrongPart("not not not not not not not not ^not 1");
        // A deep part does not leave more or less for the next one.
        wrongPart(eight + "1" + closed + " + " + eight + "^(1)" + closed);
        wrongPart("max(-------1, -------^-1)");
        rightPart("max(-------1, -------1)");
        rightPart("-(-(-(-(1))))");
        wrongPart("-(-(-(-(^-1))))");
    }

    /** So many of one opening, and of another one what is left of eight; then one more of each. */
    private static void checkDepth(String[] openings, String[] closings, int outer, int times,
            int inner) {
        String ahead = openings[outer].repeat(times) + openings[inner].repeat(8 - times);
        String behind = closings[inner].repeat(8 - times) + closings[outer].repeat(times);
        rightPart(ahead + "1" + behind);
        for (String one : new String[] {"^(1)", "^-1", "^not 1", "abs^(1)", "min^(1, 2)", "max^(1, 2)"}) {
            wrongPart(ahead + one + behind);
        }
    }

    private static void length() {
        Sentences.of("Terms", "An expression that is in no other one has at most 60 tokens.");
        String most = "-" + LONG;
        String part57 = LONG.substring(4);
        String part55 = LONG.substring(8);
        // 60 tokens, that end with a number, a name, or a ")" of each kind.
        String[] sixty = {most, most.substring(0, most.length() - 1) + "x", "(-" + part57 + ")",
            "not abs(-" + part55 + ")", "min(1, " + part55 + ")", "max(" + part55 + ", x)"};
        for (String one : sixty) {
            Check.same("tokens of " + one, 60, tokens(one));
            rightPart(one);
            for (String more : "+ - * / % = <> < > <= >= and or".split(" ")) {
                wrongPart(one + " ^" + more + " 1");
            }
        }
        // A 61st token of each kind, that would fit but for that.
        for (String last : "^1;^x;^(1);^-1;^not 1;^min(1, 2);^max(1, 2);^abs(1)".split(";")) {
            wrongPart(LONG + " + " + last);
        }
        wrongPart("(" + LONG + "^)");
        wrongPart("abs(-" + part57 + "^)");
        wrongPart("min(-" + part57 + "^, 1)");
        wrongPart("-" + part57 + " + min^(1, 2)");
        wrongPart("min(1, -" + part55 + "^)");
        rightPart(LONG);
        // What is behind an expression is not in it, and each one has its own tokens.
        right(X + "gain g = " + most + "; do a when " + most + " go 100;");
        right("var x = 0 in 0 to 99; var y = 0 in 0 to 99; do a when " + most + " go 50 set x = " + most
                + ", y = " + most + " also go 50 set y = " + most + ";");
        String[] places = {X + A + "gain g = E;", X + A + "gain g per a = E;", X + A + "goal E;",
            X + "do a when E go 100;", X + "do a when 1 go 100 set x = E;",
            "var y = 0 in 0 to 99; " + X + "do a when 1 go 50 also go 50 set y = 1, x = E;"};
        for (String place : places) {
            wrong(place.replace("E", most + " ^+ 1"));
            wrong(place.replace("E", LONG + " + ^1"));
            MarkovBench bench = new MarkovBench();
            int error = Tape.compile(bench, place.replace("E", most));
            Check.same("60 tokens in " + place, true, error == 0 || error == 9);
        }
        wrong(X + A + "goal " + most + "  ^");
        wrong(X + A + "goal " + most + " ^7;");
        wrong(X + "do a when " + most + " ^set x = 1;");
    }

    private static int tokens(String text) {
        return text.replaceAll("[a-z0-9]+|[^ ]", "#").replace(" ", "").length();
    }

    private static void errorOne() {
        Sentences.of("Terms", "Errors of form. Error 1: the first token with which the tokens so far are "
                + "not the beginning of a program (of test: of an expression).");
        String program = "var abc = - 5 in - 9 to 9 ; gain g per c = - abc + 1 ; gain h = 2 ; var d = 1 in "
                + "0 to 1 ; goal not abc = 3 and ( abc <> 1 or min ( abc , 2 ) >= 9 ) ; do c when abs ( abc "
                + ") < 7 go 40 set abc = abc * 2 / 2 % 9 , d = 1 also go 60 set d = max ( 0 , 1 ) ;";
        right(program);
        String[] tokens = program.split(" ");
        for (int i = 0; i < tokens.length; i++) {
            String begin = i == 0 ? "" : String.join(" ", Arrays.asList(tokens).subList(0, i)) + " ";
            String rest = String.join(" ", Arrays.asList(tokens).subList(i + 1, tokens.length));
            wrong(begin + "^$ " + rest);
            wrong(begin + "^: " + rest);
            wrong(begin + "^1234567 ~ " + rest);
            wrong(begin + "^abcdefghi 1234567 " + rest);
            if (i > 0 && !tokens[i - 1].equals(";")) {
                wrong(begin.strip() + "^");
                wrong(begin + "^");
            }
        }
        String[] parts = "not x + ( 1 or - 2 ) * min ( x , 3 ) <> abs ( 4 )".split(" ");
        for (int i = 0; i < parts.length; i++) {
            String begin = i == 0 ? "" : String.join(" ", Arrays.asList(parts).subList(0, i)) + " ";
            String rest = String.join(" ", Arrays.asList(parts).subList(i + 1, parts.length));
            for (String odd : "^$ ^: ^; ^go ^set ^= ^1234567 ^abcdefghi".split(" ")) {
                // Behind an operand that no relation stands ahead of, "=" may come.
                boolean isRight = odd.equals("^=") && " 2 5 8 9 13 15 16 20 ".contains(" " + i + " ");
                if (!isRight) {
                    Benches.tests(1, X + A, begin + odd + " " + rest);
                }
            }
        }
        // By test, neither a program nor what stands in one around an expression.
        Benches.tests(1, X + A, "^goal 1;");
        Benches.tests(1, X + A, "1^;");
        Benches.tests(1, X + A, "1 ^1");
        Benches.tests(1, X + A, "1^, 2");
        Benches.tests(1, X + A, "1^)");
        Sentences.of("Terms", "This includes a byte with which no token begins, a word or number that is "
                + "too long, the end of the tape (at its length), the \"(\", \"-\" or \"not\" behind which "
                + "the depth would be 9, and the token that would be the 61st of an expression.");
        for (int one = 0; one < 256; one++) {
            if (one != 32 && one != 10 && "();:,=+-*/%<>".indexOf(one) < 0
                    && (one < 'a' || one > 'z') && (one < '0' || one > '9')) {
                wrongPart("1 + ^" + (char) one + " + 2");
            }
        }
        wrongPart("1 + ^123456789 + 2");
        wrongPart("1 + ^abcdefghi + 2");
        for (int blanks = 0; blanks < 5; blanks++) {
            wrong(" ".repeat(blanks) + "^");
            wrong(X + A + "goal 1 +" + "\n".repeat(blanks) + "^");
            Benches.tests(1, X + A, " ".repeat(blanks) + "^");
            Benches.tests(1, X + A, "min(1" + " ".repeat(blanks) + "^");
        }
        wrong(" ".repeat(1500) + "^");
        wrong("goal 1 " + " ".repeat(1493) + "^");
        Benches.tests(1, X + A, "1 +" + " ".repeat(1497) + "^");
        wrongPart("((((((((1 + ^(");
        wrongPart("--------^-");
        wrongPart("((((((((1 + ^not");
        wrongPart("1 + ".repeat(30) + "^1");
        Sentences.of("Terms", "The position is that of its first byte.");
        wrongPart("1 + ^<= 2");
        wrongPart("1 + ^<> 2");
        wrongPart("1 + ^>= 2");
        wrongPart("1 + ^when 2");
        wrongPart("1 ^23 + 2");
        wrongPart("1 ^name + 2");
        wrongPart("1 + ^1234567 + 2");
        wrongPart("1 + ^abcdefghi + 2");
        wrong("var ^123456 = 0 in 0 to 9;");
        wrong(X + "   ^whence a;");
    }
}
