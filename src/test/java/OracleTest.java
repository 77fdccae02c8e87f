import java.lang.reflect.InvocationTargetException;
import java.lang.reflect.Method;
import java.util.ArrayList;
import java.util.Arrays;
import java.util.List;
import java.util.Random;

/** Compares the class with the oracle, over many runs of calls that a fixed seed makes. */
public final class OracleTest {
    private final Random random;
    private final MarkovBench bench = new MarkovBench();
    private final Oracle oracle = new Oracle();
    private final StringBuilder story = new StringBuilder();
    private int calls = 0;

    private OracleTest(long seed) {
        random = new Random(seed);
    }

    public static void main(String[] args) throws Exception {
        int runs = args.length > 0 ? Integer.parseInt(args[0]) : 1500;
        int from = args.length > 1 ? Integer.parseInt(args[1]) : 0;
        int[] errors = new int[10];
        for (int seed = from; seed < from + runs && Check.wrongs() < 5; seed++) {
            new OracleTest(seed).run(errors);
        }
        System.out.println("compile answered 0 to 9 so often: " + Arrays.toString(errors));
        if (runs >= 1000) {
            for (int i = 0; i < errors.length; i++) {
                Check.same("compile answered " + i + " at least once", true, errors[i] > 0);
            }
        }
        Check.end();
    }

    private void run(int[] errors) throws Exception {
        while (calls < 480) {
            String text = Generator.program(random);
            if (text.length() > 1500) {
                continue;
            }
            for (int[] five : Tape.fives(text)) {
                ask("feed", five[0], five[1], five[2], five[3], five[4]);
            }
            ask("trim", text.length());
            story.append(" [").append(text).append("] ");
            errors[((Number) ask("compile")).intValue()]++;
            ask("errorAt");
            int asks = bench.count(3) > 0 ? 120 : 5;
            for (int i = 0; i < asks && calls < 480 && Check.wrongs() == 0; i++) {
                askAny();
            }
            ask("digest");
            ask("trim", 0);
            if (Check.wrongs() > 0) {
                System.out.println(story);
                return;
            }
            story.setLength(0);
        }
    }

    private void askAny() throws Exception {
        int strategies = bench.count(4);
        int state = among(bench.count(3));
        int gain = among(bench.count(1));
        int strategy = among(strategies);
        switch (random.nextInt(30)) {
            case 0, 1 -> askTest(state);
            case 2 -> ask("count", among(6));
            case 3 -> ask("value", state, among(bench.count(0)));
            case 4 -> ask("choices", state);
            case 5 -> ask("choice", state, among(3), among(2));
            case 6 -> ask("gain", state, among(3), gain);
            case 7, 8 -> ask("branch", state, among(3), among(3), random.nextBoolean());
            case 9, 10 -> ask("weigh", gain, among(19) - 9);
            case 11, 12 -> ask("solve", 1 + among(random.nextBoolean() ? 30 : 6));
            case 13 -> ask("takes", strategy, state, 1 + among(12));
            case 14 -> ask("worth", strategy, state, among(12));
            case 15 -> ask("brings", strategy, gain);
            case 16 -> ask("chance", strategy);
            case 17 -> ask("isWorthHaving", strategy);
            case 18 -> ask("sweep", gain, among(bench.count(1)), 1 + among(9), 1 + among(30));
            case 19 -> ask("mix", strategy, among(strategies), among(101), gain);
            case 20 -> ask("bestMix", gain, among(bench.count(1)), bound(gain));
            case 21 -> ask("drop", strategy);
            case 22, 23 -> ask("reach", among(31), random.nextBoolean());
            case 24 -> ask("seed", random.nextLong());
            case 25, 26 -> ask("play", strategy);
            case 27 -> ask("played", among(4));
            case 28 -> ask("average", strategy, gain, 1 + among(20));
            default -> ask("digest");
        }
    }

    private long bound(int gain) {
        int strategies = bench.count(4);
        if (strategies == 0 || gain < 0 || gain >= bench.count(1)) {
            return random.nextInt(100000) - 50000;
        }
        return bench.brings(random.nextInt(strategies), gain) + random.nextInt(3) - 1;
    }

    private void askTest(int state) throws Exception {
        String text = Generator.lone(random);
        if (text.length() > 1500) {
            return;
        }
        ask("trim", 0);
        for (int[] five : Tape.fives(text)) {
            ask("feed", five[0], five[1], five[2], five[3], five[4]);
        }
        ask("trim", text.length());
        story.append(" [").append(text).append("] ");
        ask("test", state);
        ask("errorAt");
        ask("result");
    }

    /** Mostly one of so many, seldom one that is not. */
    private int among(int size) {
        if (random.nextInt(25) == 0) {
            int[] odd = {-1, size, size + 1, Integer.MIN_VALUE, Integer.MAX_VALUE, 100};
            return odd[random.nextInt(odd.length)];
        }
        return size <= 0 ? 0 : random.nextInt(size);
    }

    private Object ask(String name, Object... with) throws Exception {
        calls++;
        Object want = answer(oracle, name, with);
        Object got = answer(bench, name, with);
        String call = name + Arrays.toString(with);
        story.append(call).append(' ');
        Check.same(call, want, got);
        return want;
    }

    private static Object answer(Object of, String name, Object[] with) throws Exception {
        for (Method method : of.getClass().getDeclaredMethods()) {
            if (method.getName().equals(name) && method.getParameterCount() == with.length
                    && java.lang.reflect.Modifier.isPublic(method.getModifiers())) {
                try {
                    return method.invoke(of, with);
                } catch (InvocationTargetException e) {
                    return e.getCause().getClass().getName();
                }
            }
        }
        throw new NoSuchMethodException(name);
    }

    /** Makes programs and expressions, most of them right, many of them spoilt in one place. */
    private static final class Generator {
        private static final String[] NAMES = {"x", "y", "z9", "abcdefgh", "v", "w", "varx", "d"};
        private static final String[] ODD = {"var", "gain", "per", "goal", "do", "when", "go", "set",
            "also", "and", "or", "not", "min", "max", "abs", "in", "to", "(", ")", ";", ":", ",", "=",
            "+", "-", "*", "/", "%", "<", ">", "<=", ">=", "<>", "1", "0", "100", "101", "999999",
            "1234567", "abcdefghi", "x", "y", "g0", "c0", "c1", "A", "\t", "\u00e9", "\0"};

        private final Random random;
        private final List<String> out = new ArrayList<>();
        private final List<String> known = new ArrayList<>();
        private final List<int[]> bounds = new ArrayList<>();

        private Generator(Random random) {
            this.random = random;
        }

        static String program(Random random) {
            Generator made = new Generator(random);
            made.items();
            return made.text(random.nextInt(3) == 0);
        }

        static String lone(Random random) {
            Generator made = new Generator(random);
            made.known.addAll(Arrays.asList(NAMES).subList(0, 1 + random.nextInt(2)));
            made.expression(random.nextInt(12));
            return made.text(random.nextInt(4) == 0);
        }

        private boolean isOne(int of) {
            return random.nextInt(of) == 0;
        }

        private void put(String... tokens) {
            out.addAll(Arrays.asList(tokens));
        }

        private void items() {
            int most = isOne(12) ? 8 : 3;
            int variables = isOne(40) ? 0 : 1 + random.nextInt(most);
            int gains = isOne(20) ? 4 : random.nextInt(4);
            int commands = isOne(40) ? 0 : isOne(10) ? 1 + random.nextInt(17) : 1 + random.nextInt(4);
            for (int i = 0; i < variables; i++) {
                variable(i);
            }
            List<Integer> order = new ArrayList<>();
            for (int i = 0; i < gains; i++) {
                order.add(i);
            }
            for (int i = 0; i < commands; i++) {
                order.add(10 + i);
            }
            if (!isOne(3)) {
                order.add(40);
            }
            if (isOne(30)) {
                order.add(40);
            }
            java.util.Collections.shuffle(order, random);
            for (int one : order) {
                if (one == 40) {
                    put("goal");
                    if (isOne(3)) {
                        expression(2);
                    } else {
                        put(name(), "=", number(6));
                    }
                    put(";");
                } else if (one < 10) {
                    gain(one, commands);
                } else {
                    command(one - 10);
                }
            }
        }

        private void variable(int i) {
            String name = NAMES[isOne(40) ? 0 : i % NAMES.length];
            int wide = isOne(6) ? 99 : 1 + random.nextInt(4);
            int least = isOne(3) ? -random.nextInt(wide + 1) : 0;
            int greatest = isOne(60) ? least - 1 : least + wide;
            int first = isOne(60) ? greatest + 1 : least + random.nextInt(wide + 1);
            if (isOne(80)) {
                greatest = 100;
            }
            put("var", name, "=");
            whole(first);
            put("in");
            whole(least);
            put("to");
            whole(greatest);
            put(";");
            known.add(name);
            bounds.add(new int[] {least, Math.max(least, greatest)});
        }

        private void whole(int x) {
            if (x < 0 || isOne(30)) {
                put("-");
            }
            put(String.valueOf(Math.abs(x)));
        }

        private void gain(int i, int commands) {
            put("gain", isOne(50) ? "x" : "g" + i);
            if (isOne(3)) {
                put("per", isOne(25) ? "nothing" : "c" + random.nextInt(Math.max(1, commands)));
            }
            put("=");
            expression(random.nextInt(4));
            put(";");
        }

        private void command(int i) {
            put("do", isOne(50) ? "g0" : "c" + i, "when");
            if (isOne(3)) {
                expression(random.nextInt(3));
            } else {
                put(isOne(2) ? "1" : name());
            }
            int left = 100;
            int branches = isOne(40) ? 5 : 1 + random.nextInt(4);
            for (int b = 0; b < branches; b++) {
                int chance = b == branches - 1 ? left : 1 + random.nextInt(left - (branches - b) + 1);
                left -= chance;
                put("go", String.valueOf(isOne(100) ? chance + 1 : chance));
                if (!isOne(4)) {
                    sets();
                }
                if (b < branches - 1) {
                    put("also");
                }
            }
            put(";");
        }

        private void sets() {
            put("set");
            List<Integer> which = new ArrayList<>();
            for (int v = 0; v < known.size(); v++) {
                if (which.isEmpty() || isOne(3)) {
                    which.add(v);
                }
            }
            java.util.Collections.shuffle(which, random);
            if (which.isEmpty()) {
                which.add(0);
                known.add("x");
                bounds.add(new int[] {0, 1});
            }
            for (int i = 0; i < which.size(); i++) {
                if (i > 0) {
                    put(",");
                }
                setting(which.get(i));
            }
        }

        private void setting(int v) {
            String name = known.get(v);
            String least = String.valueOf(Math.abs(bounds.get(v)[0]));
            int high = bounds.get(v)[1];
            put(isOne(60) ? name() : name, "=");
            switch (random.nextInt(isOne(4) ? 7 : 5)) {
                case 0, 1 -> {
                    put("min", "(", name, "+", number(3), ",");
                    whole(high);
                    put(")");
                }
                case 2 -> {
                    put("max", "(", name, "-", number(3), ",");
                    put("-", least, ")");
                    if (bounds.get(v)[0] >= 0) {
                        out.set(out.size() - 3, "0");
                        out.remove(out.size() - 2);
                    }
                }
                case 3 -> put(name);
                case 4 -> {
                    put("abs", "(", name, "+");
                    expression(1);
                    put(")", "%", String.valueOf(Math.max(1, high + 1)));
                }
                case 5 -> expression(2);
                default -> put("(", name, "+", number(3), ")");
            }
        }

        private String name() {
            return known.isEmpty() || isOne(100) ? "unknown" : known.get(random.nextInt(known.size()));
        }

        private String number(int size) {
            return isOne(20) ? String.valueOf(random.nextInt(1000000))
                    : String.valueOf(random.nextInt(size));
        }

        private void expression(int size) {
            if (size <= 0) {
                put(isOne(2) ? name() : number(12));
                return;
            }
            String[] operators = {"+", "-", "*", "/", "%", "=", "<>", "<", ">", "<=", ">=", "and", "or",
                "*", "+", "-"};
            switch (random.nextInt(9)) {
                case 0 -> {
                    put("(");
                    expression(size - 1);
                    put(")");
                }
                case 1 -> {
                    put(isOne(2) ? "-" : "not");
                    expression(size - 1);
                }
                case 2 -> {
                    put(isOne(2) ? "min" : "max", "(");
                    expression(size / 2);
                    put(",");
                    expression(size - 1 - size / 2);
                    put(")");
                }
                case 3 -> {
                    put("abs", "(");
                    expression(size - 1);
                    put(")");
                }
                default -> {
                    int left = random.nextInt(size);
                    expression(left);
                    put(operators[random.nextInt(operators.length)]);
                    expression(size - 1 - left);
                }
            }
        }

        private String text(boolean isSpoilt) {
            if (isSpoilt && !out.isEmpty()) {
                int at = random.nextInt(out.size());
                switch (random.nextInt(5)) {
                    case 0 -> out.remove(at);
                    case 1 -> out.add(at, ODD[random.nextInt(ODD.length)]);
                    case 2 -> out.set(at, ODD[random.nextInt(ODD.length)]);
                    case 3 -> out.subList(at, out.size()).clear();
                    default -> lengthen(at);
                }
            }
            StringBuilder text = new StringBuilder();
            boolean isWide = isOne(3);
            for (String token : out) {
                char last = text.length() == 0 ? ' ' : text.charAt(text.length() - 1);
                boolean isGlued = Character.isLetterOrDigit(last)
                        && Character.isLetterOrDigit(token.charAt(0));
                boolean isAngle = (last == '<' || last == '>') && "=>".indexOf(token.charAt(0)) >= 0;
                boolean isNeeded = (isGlued || isAngle) && !isOne(300);
                if (isNeeded || isWide || isOne(20)) {
                    text.append(isOne(5) ? "\n" : isOne(9) ? "  " : " ");
                }
                text.append(token);
            }
            if (isOne(3)) {
                text.append("  ");
            }
            return text.toString();
        }

        /** Puts about as many tokens into one place as an expression may have, or as deep ones. */
        private void lengthen(int at) {
            List<String> more = new ArrayList<>();
            int times = isOne(2) ? 24 + random.nextInt(8) : 5 + random.nextInt(5);
            String[] each = times > 12 ? new String[] {"1", "+"}
                    : new String[] {isOne(3) ? "not" : isOne(2) ? "-" : "("};
            for (int i = 0; i < times; i++) {
                more.addAll(Arrays.asList(each));
            }
            out.addAll(at, more);
            if (each[0].equals("(")) {
                int end = Math.min(out.size(), at + times + 1);
                for (int i = 0; i < times; i++) {
                    out.add(end, ")");
                }
            }
        }
    }
}
