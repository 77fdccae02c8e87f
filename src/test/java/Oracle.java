import java.util.ArrayDeque;
import java.util.ArrayList;
import java.util.HashMap;
import java.util.HashSet;
import java.util.LinkedHashMap;
import java.util.LinkedHashSet;
import java.util.List;
import java.util.Map;
import java.util.Set;
import java.util.regex.Matcher;
import java.util.regex.Pattern;

/**
 * The document once more, by other means than the class: the grammar is a table that is followed
 * along all its open ways at once, expressions are cut at their last loosest operator, and strategies
 * are reckoned backwards from what is asked. Slow, and only for the comparison.
 */
final class Oracle {
    private static final Set<String> KEYWORDS = Set.of("var", "in", "to", "gain", "per", "goal",
            "do", "when", "go", "set", "also", "and", "or", "not", "min", "max", "abs");

    private record Token(String text, int at, boolean isBad) {
        boolean isNumber() {
            return !text.isEmpty() && Character.isDigit(text.charAt(0));
        }

        boolean isName() {
            return !text.isEmpty() && text.charAt(0) >= 'a' && text.charAt(0) <= 'z'
                    && !KEYWORDS.contains(text);
        }
    }

    private record Wrong(int error, int at) { }

    private record Variable(int first, int least, int greatest) { }

    private record Gain(String per, List<Token> expression) { }

    private record Branch(int chance, Map<String, List<Token>> sets) { }

    private record Command(String name, int at, List<Token> when, List<Branch> branches) { }

    private record Choice(int command, List<Integer> targets) { }

    private record Plan(int steps, int[] weights, int[][] takes, long[][] worth, long[] brings,
            int chance) { }

    private final StringBuilder tape = new StringBuilder();
    private int errorAt = -1;
    private long result;
    private LinkedHashMap<String, Variable> variables = new LinkedHashMap<>();
    private LinkedHashMap<String, Gain> gains = new LinkedHashMap<>();
    private List<Command> commands = new ArrayList<>();
    private List<Token> goal;
    private List<List<Long>> states = new ArrayList<>();
    private List<List<Choice>> choices = new ArrayList<>();
    private final List<Plan> plans = new ArrayList<>();
    private int[] weights = new int[3];
    private long z;
    private long[] played = new long[4];

    // ---- programs

    public int feed(int a, int b, int c, int d, int e) {
        if (tape.length() + 20 > 1500) {
            throw new IllegalStateException();
        }
        for (int x : new int[] {a, b, c, d, e}) {
            for (byte one : java.nio.ByteBuffer.allocate(4).putInt(x).array()) {
                tape.append((char) (one & 255));
            }
        }
        return tape.length();
    }

    public int trim(int n) {
        if (n < 0 || n > tape.length()) {
            throw new IllegalArgumentException();
        }
        tape.setLength(n);
        return n;
    }

    public int compile() {
        forget();
        List<Token> tokens = tokens(tape.toString());
        tape.setLength(0);
        Wrong wrong = wrongForm(tokens, "program");
        if (wrong == null) {
            wrong = wrongMeaning(tokens);
        }
        if (wrong == null) {
            wrong = explore();
        }
        if (wrong != null) {
            forget();
        }
        errorAt = wrong == null ? -1 : wrong.at;
        return wrong == null ? 0 : wrong.error;
    }

    public int errorAt() {
        return errorAt;
    }

    public int count(int what) {
        bound(what, 6);
        return new int[] {variables.size(), gains.size(), commands.size(), states.size(),
            plans.size(), tape.length()}[what];
    }

    public int test(int state) {
        bound(state, states.size());
        List<Token> tokens = tokens(tape.toString());
        tape.setLength(0);
        Wrong wrong = wrongForm(tokens, "lone");
        tokens = tokens.subList(0, tokens.size() - 1);
        if (wrong == null) {
            wrong = wrongName(tokens, variables.keySet());
        }
        errorAt = wrong == null ? -1 : wrong.at;
        result = wrong == null ? reckon(tokens, state) : 0;
        return wrong == null ? 0 : wrong.error;
    }

    public long result() {
        return result;
    }

    private void forget() {
        variables = new LinkedHashMap<>();
        gains = new LinkedHashMap<>();
        commands = new ArrayList<>();
        goal = null;
        states = new ArrayList<>();
        choices = new ArrayList<>();
        plans.clear();
        weights = new int[3];
        played = new long[4];
    }

    // ---- the language

    private static List<Token> tokens(String text) {
        Pattern pattern = Pattern.compile("[a-z][a-z0-9]*|[0-9]+|<=|>=|<>|[^ \n]", Pattern.DOTALL);
        Matcher matcher = pattern.matcher(text);
        List<Token> tokens = new ArrayList<>();
        while (matcher.find()) {
            String one = matcher.group();
            boolean isGood = one.matches("[a-z][a-z0-9]{0,7}|[0-9]{1,6}|[();:,=+*/%<>-]|<=|>=|<>");
            tokens.add(new Token(one, matcher.start(), !isGood));
        }
        tokens.add(new Token("", text.length(), false));
        return tokens;
    }

    // Each rule: its alternatives, each a row of symbols. $n is a name, $d a number, <e and e> are
    // the ends of an expression that is in no other one, +1 and -1 change the depth, and what stands
    // in braces is a rule. What is repeated is a rule of its own, so that few ways are open at once.
    private static final Map<String, String[]> GRAMMAR = new HashMap<>();

    static {
        rule("program", "{item} {items} $end");
        rule("lone", "{top} $end");
        rule("items", "", "{item} {items}");
        rule("item", "var $n = {whole} in {whole} to {whole} ;", "gain $n {per} = {top} ;",
                "goal {top} ;", "do $n when {top} {branch} {also} ;");
        rule("per", "", "per $n");
        rule("also", "", "also {branch} {also}");
        rule("branch", "go $d", "go $d set {set} {sets}");
        rule("sets", "", ", {set} {sets}");
        rule("set", "$n = {top}");
        rule("whole", "$d", "- $d");
        rule("top", "<e {expr} e>");
        rule("expr", "{both} {or}");
        rule("or", "", "or {both} {or}");
        rule("both", "{rel} {and}");
        rule("and", "", "and {rel} {and}");
        rule("rel", "{sum} {second}");
        rule("second", "", "= {sum}", "<> {sum}", "< {sum}", "> {sum}", "<= {sum}", ">= {sum}");
        rule("sum", "{prod} {plus}");
        rule("plus", "", "+ {prod} {plus}", "- {prod} {plus}");
        rule("prod", "{fac} {times}");
        rule("times", "", "* {fac} {times}", "/ {fac} {times}", "% {fac} {times}");
        rule("fac", "$d", "$n", "+1 ( {expr} ) -1", "+1 - {fac} -1", "+1 not {fac} -1",
                "min +1 ( {expr} , {expr} ) -1", "max +1 ( {expr} , {expr} ) -1",
                "abs +1 ( {expr} ) -1");
    }

    private static void rule(String name, String... ways) {
        GRAMMAR.put("{" + name + "}", ways);
    }

    /** One way through the grammar: what must still come, and where it stands in an expression. */
    private record Way(Stack rest, int depth, int taken) { }

    private record Stack(String top, Stack below) { }

    private static Wrong wrongForm(List<Token> tokens, String start) {
        Set<Way> ways = new LinkedHashSet<>();
        ways.add(new Way(new Stack("{" + start + "}", null), 0, -1));
        for (Token token : tokens) {
            Set<Way> next = new LinkedHashSet<>();
            for (Way way : opened(ways)) {
                boolean isOver = way.taken == 60 || way.depth > 8;
                if (!isOver && !token.isBad && fits(way.rest.top, token)) {
                    next.add(new Way(way.rest.below, way.depth, way.taken < 0 ? -1 : way.taken + 1));
                }
            }
            if (next.isEmpty()) {
                return new Wrong(1, token.at);
            }
            ways = next;
        }
        return null;
    }

    private static boolean fits(String symbol, Token token) {
        switch (symbol) {
            case "$n":
                return token.isName();
            case "$d":
                return token.isNumber();
            case "$end":
                return token.text.isEmpty();
            default:
                return token.text.equals(symbol);
        }
    }

    /** All ways on, until each has a token on its top. */
    private static List<Way> opened(Set<Way> ways) {
        List<Way> ready = new ArrayList<>();
        Set<Way> seen = new HashSet<>(ways);
        ArrayDeque<Way> todo = new ArrayDeque<>(ways);
        while (!todo.isEmpty()) {
            Way way = todo.pop();
            if (way.rest == null) {
                continue;
            }
            String top = way.rest.top;
            Stack below = way.rest.below;
            List<Way> more = new ArrayList<>();
            switch (top) {
                case "<e" -> more.add(new Way(below, 0, 0));
                case "e>" -> more.add(new Way(below, 0, -1));
                case "+1" -> more.add(new Way(below, way.depth + 1, way.taken));
                case "-1" -> more.add(new Way(below, way.depth - 1, way.taken));
                default -> {
                    if (!GRAMMAR.containsKey(top)) {
                        ready.add(way);
                        continue;
                    }
                    for (String alternative : GRAMMAR.get(top)) {
                        String[] symbols = alternative.isEmpty() ? new String[0]
                                : alternative.split(" ");
                        Stack stack = below;
                        for (int i = symbols.length - 1; i >= 0; i--) {
                            stack = new Stack(symbols[i], stack);
                        }
                        more.add(new Way(stack, way.depth, way.taken));
                    }
                }
            }
            for (Way one : more) {
                if (seen.add(one)) {
                    todo.push(one);
                }
            }
        }
        return ready;
    }

    /** The first wrong meaning of a program of the right form; takes what it tells along. */
    private Wrong wrongMeaning(List<Token> all) {
        Set<String> ordered = new HashSet<>();
        for (int i = 0; i + 1 < all.size(); i++) {
            if (all.get(i).text.equals("do")) {
                ordered.add(all.get(i + 1).text);
            }
        }
        int begin = 0;
        for (int i = 0; i < all.size(); i++) {
            if (all.get(i).text.equals(";")) {
                Wrong wrong = wrongItem(all.subList(begin, i), ordered);
                if (wrong != null) {
                    return wrong;
                }
                begin = i + 1;
            }
        }
        int end = all.get(all.size() - 1).at;
        return variables.isEmpty() || commands.isEmpty() ? new Wrong(7, end) : null;
    }

    private Wrong wrongItem(List<Token> item, Set<String> ordered) {
        Token first = item.get(0);
        int[] most = {6, 3, 16, 1};
        int kind = List.of("var", "gain", "do", "goal").indexOf(first.text);
        int[] has = {variables.size(), gains.size(), commands.size(), goal == null ? 0 : 1};
        if (has[kind] == most[kind]) {
            return new Wrong(4, first.at);
        }
        if (kind == 3) {
            goal = item.subList(1, item.size());
            return wrongName(goal, variables.keySet());
        }
        Token name = item.get(1);
        Set<String> taken = new HashSet<>(variables.keySet());
        taken.addAll(gains.keySet());
        commands.forEach(c -> taken.add(c.name));
        if (taken.contains(name.text)) {
            return new Wrong(3, name.at);
        }
        if (kind == 0) {
            return wrongVariable(item);
        }
        return kind == 1 ? wrongGain(item, ordered) : wrongCommand(item);
    }

    private Wrong wrongVariable(List<Token> item) {
        List<Token> numbers = new ArrayList<>();
        List<Integer> found = new ArrayList<>();
        for (int i = 3; i < item.size(); i++) {
            if (item.get(i).isNumber()) {
                int sign = item.get(i - 1).text.equals("-") ? -1 : 1;
                numbers.add(item.get(i));
                found.add(sign * Integer.parseInt(item.get(i).text));
            }
        }
        for (int i = 1; i <= 2; i++) {
            if (found.get(i) < -99 || found.get(i) > 99) {
                return new Wrong(5, numbers.get(i).at);
            }
        }
        if (found.get(2) < found.get(1)) {
            return new Wrong(5, numbers.get(2).at);
        }
        if (found.get(0) < found.get(1) || found.get(0) > found.get(2)) {
            return new Wrong(5, numbers.get(0).at);
        }
        variables.put(item.get(1).text, new Variable(found.get(0), found.get(1), found.get(2)));
        return null;
    }

    private Wrong wrongGain(List<Token> item, Set<String> ordered) {
        String per = null;
        int at = 3;
        if (item.get(2).text.equals("per")) {
            per = item.get(3).text;
            at = 5;
            if (!ordered.contains(per)) {
                return new Wrong(2, item.get(3).at);
            }
        }
        List<Token> expression = item.subList(at, item.size());
        gains.put(item.get(1).text, new Gain(per, expression));
        return wrongName(expression, variables.keySet());
    }

    private Wrong wrongCommand(List<Token> item) {
        int at = 3;
        while (!item.get(at).text.equals("go")) {
            at++;
        }
        List<Token> when = item.subList(3, at);
        Wrong wrong = wrongName(when, variables.keySet());
        List<Branch> branches = new ArrayList<>();
        int chances = 0;
        while (wrong == null && at < item.size()) {
            if (branches.size() == 4) {
                return new Wrong(4, item.get(at).at);
            }
            int chance = Integer.parseInt(item.get(at + 1).text);
            if (chance < 1 || chance > 100) {
                return new Wrong(5, item.get(at + 1).at);
            }
            chances += chance;
            int end = at + 2;
            while (end < item.size() && !item.get(end).text.equals("also")) {
                end++;
            }
            Map<String, List<Token>> sets = new HashMap<>();
            wrong = wrongSets(item.subList(at + 2, end), sets);
            branches.add(new Branch(chance, sets));
            at = end + 1;
        }
        if (wrong == null && chances != 100) {
            wrong = new Wrong(6, item.get(1).at);
        }
        commands.add(new Command(item.get(1).text, item.get(1).at, when, branches));
        return wrong;
    }

    private Wrong wrongSets(List<Token> tokens, Map<String, List<Token>> sets) {
        int at = 1;
        while (at < tokens.size()) {
            Token name = tokens.get(at);
            if (!variables.containsKey(name.text)) {
                return new Wrong(2, name.at);
            }
            if (sets.containsKey(name.text)) {
                return new Wrong(3, name.at);
            }
            int end = at + 2;
            int open = 0;
            while (end < tokens.size() && (open > 0 || !tokens.get(end).text.equals(","))) {
                open += tokens.get(end).text.equals("(") ? 1 : 0;
                open -= tokens.get(end).text.equals(")") ? 1 : 0;
                end++;
            }
            List<Token> expression = tokens.subList(at + 2, end);
            Wrong wrong = wrongName(expression, variables.keySet());
            if (wrong != null) {
                return wrong;
            }
            sets.put(name.text, expression);
            at = end + 1;
        }
        return null;
    }

    private static Wrong wrongName(List<Token> expression, Set<String> known) {
        return expression.stream().filter(t -> t.isName() && !known.contains(t.text)).findFirst()
                .map(t -> new Wrong(2, t.at)).orElse(null);
    }

    private static final List<Set<String>> LEVELS = List.of(Set.of("or"), Set.of("and"),
            Set.of("=", "<>", "<", ">", "<=", ">="), Set.of("+", "-"), Set.of("*", "/", "%"));

    private long reckon(List<Token> e, int state) {
        return reckon(e, states.get(state));
    }

    private long reckon(List<Token> e, List<Long> state) {
        for (Set<String> level : LEVELS) {
            int open = 0;
            for (int i = e.size() - 1; i > 0; i--) {
                String text = e.get(i).text;
                open += text.equals(")") ? 1 : text.equals("(") ? -1 : 0;
                Token left = e.get(i - 1);
                boolean isBehindOperand = left.isName() || left.isNumber() || left.text.equals(")");
                if (open == 0 && level.contains(text) && isBehindOperand) {
                    return binary(text, reckon(e.subList(0, i), state),
                            reckon(e.subList(i + 1, e.size()), state));
                }
            }
        }
        Token first = e.get(0);
        if (e.size() == 1) {
            return first.isNumber() ? Long.parseLong(first.text)
                    : state.get(List.copyOf(variables.keySet()).indexOf(first.text));
        }
        switch (first.text) {
            case "-":
                return -reckon(e.subList(1, e.size()), state);
            case "not":
                return reckon(e.subList(1, e.size()), state) == 0 ? 1 : 0;
            case "abs":
                return Math.abs(reckon(e.subList(1, e.size()), state));
            case "(":
                return reckon(e.subList(1, e.size() - 1), state);
            default:
                int comma = 2;
                for (int open = 0; open > 0 || !e.get(comma).text.equals(","); comma++) {
                    open += e.get(comma).text.equals("(") ? 1 : 0;
                    open -= e.get(comma).text.equals(")") ? 1 : 0;
                }
                return binary(first.text, reckon(e.subList(2, comma), state),
                        reckon(e.subList(comma + 1, e.size() - 1), state));
        }
    }

    private static long binary(String operator, long x, long y) {
        boolean isTrue;
        switch (operator) {
            case "+": return x + y;
            case "-": return x - y;
            case "*": return x * y;
            case "/": return y == 0 ? 0 : x / y;
            case "%": return y == 0 ? 0 : x - x / y * y;
            case "min": return x < y ? x : y;
            case "max": return x < y ? y : x;
            case "and": isTrue = x != 0 & y != 0; break;
            case "or": isTrue = x != 0 | y != 0; break;
            case "=": isTrue = x == y; break;
            case "<>": isTrue = x != y; break;
            case "<": isTrue = x < y; break;
            case ">": isTrue = x > y; break;
            case "<=": isTrue = x <= y; break;
            case ">=": isTrue = x >= y; break;
            default: throw new UnsupportedOperationException(operator);
        }
        return isTrue ? 1 : 0;
    }

    // ---- states

    private Wrong explore() {
        List<Long> start = new ArrayList<>();
        variables.values().forEach(v -> start.add((long) v.first));
        states.add(start);
        for (int s = 0; s < states.size(); s++) {
            List<Choice> here = new ArrayList<>();
            choices.add(here);
            if (goal != null && reckon(goal, s) != 0) {
                choices.set(s, null);
                continue;
            }
            for (int c = 0; c < commands.size(); c++) {
                Command command = commands.get(c);
                if (reckon(command.when, s) == 0) {
                    continue;
                }
                List<Integer> targets = new ArrayList<>();
                for (Branch branch : command.branches) {
                    List<Long> next = new ArrayList<>();
                    int v = 0;
                    for (Map.Entry<String, Variable> one : variables.entrySet()) {
                        List<Token> e = branch.sets.get(one.getKey());
                        long x = e == null ? states.get(s).get(v) : reckon(e, s);
                        if (x < one.getValue().least || x > one.getValue().greatest) {
                            return new Wrong(9, command.at);
                        }
                        next.add(x);
                        v++;
                    }
                    if (!states.contains(next)) {
                        if (states.size() == 100) {
                            return new Wrong(8, command.at);
                        }
                        states.add(next);
                    }
                    targets.add(states.indexOf(next));
                }
                here.add(new Choice(c, targets));
            }
        }
        return null;
    }

    private static void bound(long x, long size) {
        if (x < 0 || x >= size) {
            throw new IndexOutOfBoundsException();
        }
    }

    private static void range(long x, long least, long greatest) {
        if (x < least || x > greatest) {
            throw new IllegalArgumentException();
        }
    }

    public int value(int state, int variable) {
        bound(state, states.size());
        bound(variable, variables.size());
        return states.get(state).get(variable).intValue();
    }

    public int choices(int state) {
        bound(state, states.size());
        return choices.get(state) == null ? -1 : choices.get(state).size();
    }

    private Choice choiceAt(int state, int choice) {
        bound(choice, choices(state));
        return choices.get(state).get(choice);
    }

    public int choice(int state, int choice, int what) {
        Choice one = choiceAt(state, choice);
        bound(what, 2);
        return what == 0 ? one.command : one.targets.size();
    }

    public long gain(int state, int choice, int gain) {
        Choice one = choiceAt(state, choice);
        bound(gain, gains.size());
        Gain of = List.copyOf(gains.values()).get(gain);
        boolean isHad = of.per == null || of.per.equals(commands.get(one.command).name);
        return isHad ? reckon(of.expression, state) : 0;
    }

    public int branch(int state, int choice, int branch, boolean isChance) {
        Choice one = choiceAt(state, choice);
        bound(branch, one.targets.size());
        return isChance ? commands.get(one.command).branches.get(branch).chance
                : one.targets.get(branch);
    }

    // ---- strategies

    public int weigh(int gain, int weight) {
        bound(gain, gains.size());
        range(weight, -9, 9);
        int before = weights[gain];
        weights[gain] = weight;
        return before;
    }

    public int solve(int steps) {
        range(steps, 1, 30);
        if (states.isEmpty() || plans.size() == 12) {
            throw new IllegalStateException();
        }
        plans.add(plan(weights.clone(), steps));
        return plans.size() - 1;
    }

    private Plan plan(int[] by, int steps) {
        int[][] takes = new int[steps + 1][states.size()];
        long[][] worth = new long[steps + 1][states.size()];
        long[][][] gained = new long[3][steps + 1][states.size()];
        long[][] chance = new long[steps + 1][states.size()];
        for (int n = 0; n <= steps; n++) {
            for (int s = 0; s < states.size(); s++) {
                int count = choices(s);
                takes[n][s] = -1;
                chance[n][s] = count < 0 ? 1000000 : 0;
                for (int c = 0; n > 0 && c < count; c++) {
                    long sum = 0;
                    for (int g = 0; g < gains.size(); g++) {
                        sum += by[g] * gain(s, c, g);
                    }
                    long here = 10000 * sum + mean(s, c, worth[n - 1]);
                    if (takes[n][s] < 0 || here > worth[n][s]) {
                        takes[n][s] = c;
                        worth[n][s] = here;
                    }
                }
                int c = takes[n][s];
                if (c >= 0) {
                    for (int g = 0; g < gains.size(); g++) {
                        gained[g][n][s] = 10000 * gain(s, c, g) + mean(s, c, gained[g][n - 1]);
                    }
                    chance[n][s] = mean(s, c, chance[n - 1]);
                }
            }
        }
        long[] brings = {gained[0][steps][0], gained[1][steps][0], gained[2][steps][0]};
        return new Plan(steps, by, takes, worth, brings, (int) chance[steps][0]);
    }

    private long mean(int state, int choice, long[] of) {
        long sum = 0;
        for (int b = 0; b < choice(state, choice, 1); b++) {
            sum += branch(state, choice, b, true) * of[branch(state, choice, b, false)];
        }
        return sum / 100;
    }

    private Plan planAt(int strategy) {
        bound(strategy, plans.size());
        return plans.get(strategy);
    }

    public int takes(int strategy, int state, int left) {
        Plan plan = planAt(strategy);
        bound(state, states.size());
        range(left, 1, plan.steps);
        return plan.takes[left][state];
    }

    public long worth(int strategy, int state, int left) {
        Plan plan = planAt(strategy);
        bound(state, states.size());
        range(left, 0, plan.steps);
        return plan.worth[left][state];
    }

    public long brings(int strategy, int gain) {
        Plan plan = planAt(strategy);
        bound(gain, gains.size());
        return plan.brings[gain];
    }

    public int chance(int strategy) {
        return planAt(strategy).chance;
    }

    public boolean isWorthHaving(int strategy) {
        Plan mine = planAt(strategy);
        return plans.stream().noneMatch(other -> {
            boolean isAtLeast = true;
            boolean isDifferent = false;
            for (int g = 0; g < gains.size(); g++) {
                isAtLeast &= other.brings[g] >= mine.brings[g];
                isDifferent |= other.brings[g] != mine.brings[g];
            }
            return isAtLeast && isDifferent;
        });
    }

    public int sweep(int first, int second, int n, int steps) {
        bound(first, gains.size());
        bound(second, gains.size());
        if (first == second) {
            throw new IllegalArgumentException();
        }
        range(n, 1, 9);
        range(steps, 1, 30);
        List<Plan> kept = new ArrayList<>(plans);
        for (int k = 0; k <= n; k++) {
            int[] by = new int[3];
            by[first] = k;
            by[second] = n - k;
            Plan plan = plan(by, steps);
            if (kept.stream().noneMatch(p -> java.util.Arrays.equals(p.brings, plan.brings))) {
                kept.add(plan);
            }
        }
        if (kept.size() > 12) {
            throw new IllegalStateException();
        }
        int added = kept.size() - plans.size();
        plans.clear();
        plans.addAll(kept);
        return added;
    }

    public long mix(int a, int b, int p, int gain) {
        long x = planAt(a).brings[0];
        long y = planAt(b).brings[0];
        bound(gain, gains.size());
        range(p, 0, 100);
        x = plans.get(a).brings[gain];
        y = plans.get(b).brings[gain];
        return (p * x + (100 - p) * y) / 100;
    }

    public int bestMix(int first, int second, long bound) {
        bound(first, gains.size());
        bound(second, gains.size());
        List<int[]> mixes = new ArrayList<>();
        for (int a = 0; a < plans.size(); a++) {
            for (int b = a; b < plans.size(); b++) {
                for (int p = 0; p <= 100; p++) {
                    if (mix(a, b, p, second) >= bound) {
                        mixes.add(new int[] {a, b, p});
                    }
                }
            }
        }
        long most = mixes.stream().mapToLong(m -> mix(m[0], m[1], m[2], first)).max().orElse(0);
        return mixes.stream().filter(m -> mix(m[0], m[1], m[2], first) == most).findFirst()
                .map(m -> 100000 * m[0] + 1000 * m[1] + m[2]).orElse(-1);
    }

    public int drop(int strategy) {
        planAt(strategy);
        plans.remove(strategy);
        return plans.size();
    }

    // ---- chances without a strategy, and playing

    public int reach(int steps, boolean isLeast) {
        range(steps, 0, 30);
        if (states.isEmpty()) {
            throw new IllegalStateException();
        }
        return (int) reached(0, steps, isLeast, new HashMap<>());
    }

    private long reached(int state, int left, boolean isLeast, Map<Integer, Long> known) {
        int count = choices(state);
        if (count < 0) {
            return 1000000;
        }
        if (left == 0 || count == 0) {
            return 0;
        }
        Long before = known.get(left * 1000 + state);
        if (before != null) {
            return before;
        }
        Set<Long> each = new java.util.TreeSet<>();
        for (int c = 0; c < count; c++) {
            long sum = 0;
            for (int b = 0; b < choice(state, c, 1); b++) {
                sum += branch(state, c, b, true)
                        * reached(branch(state, c, b, false), left - 1, isLeast, known);
            }
            each.add(sum / 100);
        }
        List<Long> row = new ArrayList<>(each);
        long answer = isLeast ? row.get(0) : row.get(row.size() - 1);
        known.put(left * 1000 + state, answer);
        return answer;
    }

    public long seed(long to) {
        long before = z;
        z = to;
        return before;
    }

    public int play(int strategy) {
        Plan plan = planAt(strategy);
        played = new long[4];
        int state = 0;
        int left = plan.steps;
        while (left > 0 && choices(state) > 0) {
            int c = plan.takes[left][state];
            for (int g = 0; g < gains.size(); g++) {
                played[g + 1] += gain(state, c, g);
            }
            z = z * 6364136223846793005L + 1442695040888963407L;
            long thrown = Long.remainderUnsigned(z >>> 33, 100);
            int b = 0;
            long sum = branch(state, c, 0, true);
            while (sum <= thrown) {
                b++;
                sum += branch(state, c, b, true);
            }
            state = branch(state, c, b, false);
            played[0]++;
            left--;
        }
        return state;
    }

    public long played(int what) {
        bound(what, 4);
        return played[what];
    }

    public double average(int strategy, int gain, int plays) {
        planAt(strategy);
        bound(gain, gains.size());
        range(plays, 1, 20);
        long sum = 0;
        for (int i = 0; i < plays; i++) {
            play(strategy);
            sum += played[gain + 1];
        }
        return (double) sum / (double) plays;
    }

    public long digest() {
        List<Long> row = new ArrayList<>();
        for (int i = 0; i < 6; i++) {
            row.add((long) count(i));
        }
        row.add(z);
        for (int g = 0; g < gains.size(); g++) {
            row.add((long) weights[g]);
        }
        for (int s = 0; s < states.size(); s++) {
            row.addAll(states.get(s));
            row.add((long) choices(s));
        }
        for (Plan plan : plans) {
            row.add((long) plan.steps);
            for (int g = 0; g < gains.size(); g++) {
                row.add(plan.brings[g]);
            }
            row.add((long) plan.chance);
            for (int s = 0; s < states.size(); s++) {
                row.add((long) plan.takes[plan.steps][s]);
            }
        }
        long d = 331;
        for (long x : row) {
            d = d * 31 + x;
        }
        return d;
    }
}
