import java.util.Arrays;

/**
 * A bench for decisions under chance with several gains: compiles a program of variables, commands
 * with chances, gains and goals, explores its states, and makes, compares and plays strategies.
 */
public final class MarkovBench {
    private static final int MOST_BYTES = 1500;
    private static final int FED_BYTES = 20;
    private static final int MOST_VARIABLES = 6;
    private static final int MOST_GAINS = 3;
    private static final int MOST_COMMANDS = 16;
    private static final int MOST_BRANCHES = 4;
    private static final int MOST_STATES = 100;
    private static final int MOST_STRATEGIES = 12;
    private static final int MOST_STEPS = 30;
    private static final int MOST_WEIGHT = 9;
    private static final int MOST_PLAYS = 20;
    private static final int MOST_DEPTH = 8;
    private static final int MOST_EXPRESSION_TOKENS = 60;
    private static final int MOST_WORD_BYTES = 8;
    private static final int MOST_DIGITS = 6;
    private static final int MOST_BOUND = 99;
    private static final int WHOLE_CHANCE = 100;
    private static final long WORTH_UNIT = 10000L;
    private static final long CERTAIN = 1000000L;

    // A symbol of one byte has this byte as its kind; all other kinds stand above the bytes, the
    // keywords in the order of KEYWORDS.
    private static final String SYMBOLS = "();,=+-*/%<>";
    private static final String KEYWORDS =
            "var in to gain per goal do when go set also and or not min max abs ";
    private static final int VAR = 256;
    private static final int IN = 257;
    private static final int TO = 258;
    private static final int GAIN = 259;
    private static final int PER = 260;
    private static final int GOAL = 261;
    private static final int DO = 262;
    private static final int WHEN = 263;
    private static final int GO = 264;
    private static final int SET = 265;
    private static final int ALSO = 266;
    private static final int AND = 267;
    private static final int OR = 268;
    private static final int NOT = 269;
    private static final int MIN = 270;
    private static final int MAX = 271;
    private static final int ABS = 272;
    private static final int NAME = 273;
    private static final int NUMBER = 274;
    private static final int AT_MOST = 275;
    private static final int AT_LEAST = 276;
    private static final int UNEQUAL = 277;
    private static final int END = 278;
    private static final int MISFIT = 279;
    private static final int NEGATE = 280;

    // The levels of operators between two operands, the loosest one first: or, and, relations,
    // sums, products.
    private static final int LOOSEST = 0;
    private static final int RELATION = 2;
    private static final int TIGHTEST = 4;

    private static final int ERROR_OF_FORM = 1;
    private static final int ERROR_UNKNOWN = 2;
    private static final int ERROR_TAKEN = 3;
    private static final int ERROR_TOO_MANY = 4;
    private static final int ERROR_RANGE = 5;
    private static final int ERROR_CHANCES = 6;
    private static final int ERROR_NOTHING = 7;
    private static final int ERROR_STATES = 8;
    private static final int ERROR_BOUNDS = 9;

    private final int[] tape;
    private int tapeLength;
    private final Tokens tokens;
    private final Code code;
    private final Program program;
    private final Parser parser;
    private final States states;
    private final Planner planner;
    private final Player player;
    private final int[] weights;
    // One more than may be kept: a sweep makes each strategy in the first row that is free.
    private final Strategy[] strategies;
    private int strategyCount;
    private int errorPosition;
    private long reckoned;

    public MarkovBench() {
        tape = new int[MOST_BYTES];
        tokens = new Tokens();
        code = new Code();
        program = new Program();
        parser = new Parser(tokens, code, program);
        states = new States(program, code);
        planner = new Planner(states);
        player = new Player(states);
        weights = new int[MOST_GAINS];
        strategies = new Strategy[MOST_STRATEGIES + 1];
        for (int i = 0; i < strategies.length; i++) {
            strategies[i] = new Strategy();
        }
        errorPosition = -1;
    }

    // ---- programs

    public int feed(int a, int b, int c, int d, int e) throws IllegalStateException {
        if (tapeLength > MOST_BYTES - FED_BYTES) {
            throw new IllegalStateException("the tape would be too long");
        }
        append(a);
        append(b);
        append(c);
        append(d);
        append(e);
        return tapeLength;
    }

    public int trim(int n) throws IllegalArgumentException {
        checkRange(n, 0, tapeLength);
        tapeLength = n;
        return n;
    }

    public int compile() {
        forgetProgram();
        tokens.read(tape, tapeLength);
        tapeLength = 0;
        parser.readProgram(false);
        if (parser.error == 0) {
            parser.readProgram(true);
        }
        int error = parser.error;
        errorPosition = parser.errorPosition;
        if (error == 0) {
            error = states.explore();
            errorPosition = states.errorPosition;
        }
        if (error != 0) {
            forgetProgram();
        }
        return error;
    }

    public int errorAt() {
        return errorPosition;
    }

    public int count(int what) throws IndexOutOfBoundsException {
        switch (what) {
            case 0:
                return program.variableCount;
            case 1:
                return program.gainCount;
            case 2:
                return program.commandCount;
            case 3:
                return states.stateCount;
            case 4:
                return strategyCount;
            case 5:
                return tapeLength;
            default:
                throw new IndexOutOfBoundsException("what is counted is 0 to 5");
        }
    }

    public int test(int state) throws IndexOutOfBoundsException {
        checkState(state);
        tokens.read(tape, tapeLength);
        tapeLength = 0;
        parser.readLoneExpression(false);
        if (parser.error == 0) {
            parser.readLoneExpression(true);
        }
        errorPosition = parser.errorPosition;
        reckoned = 0;
        if (parser.error == 0) {
            reckoned = code.reckon(0, states.values, state * MOST_VARIABLES);
        }
        return parser.error;
    }

    public long result() {
        return reckoned;
    }

    // ---- states

    public int value(int state, int variable) throws IndexOutOfBoundsException {
        checkState(state);
        checkIndex(variable, program.variableCount);
        return entry(states.values, state * MOST_VARIABLES + variable);
    }

    public int choices(int state) throws IndexOutOfBoundsException {
        checkState(state);
        return states.choiceCounts[state];
    }

    public int choice(int state, int choice, int what) throws IndexOutOfBoundsException {
        checkChoice(state, choice);
        checkIndex(what, 2);
        return what == 0 ? states.commandOf(state, choice) : states.branchesOf(state, choice);
    }

    public long gain(int state, int choice, int gain) throws IndexOutOfBoundsException {
        checkChoice(state, choice);
        checkGain(gain);
        return states.gainOf(state, choice, gain);
    }

    public int branch(int state, int choice, int branch, boolean isChance)
            throws IndexOutOfBoundsException {
        checkChoice(state, choice);
        checkIndex(branch, states.branchesOf(state, choice));
        if (isChance) {
            return states.chanceOf(state, choice, branch);
        }
        return states.targetOf(state, choice, branch);
    }

    // ---- strategies

    public int weigh(int gain, int weight) throws IndexOutOfBoundsException, IllegalArgumentException {
        checkGain(gain);
        checkRange(weight, -MOST_WEIGHT, MOST_WEIGHT);
        int before = weights[gain];
        weights[gain] = weight;
        return before;
    }

    public int solve(int steps) throws IllegalArgumentException, IllegalStateException {
        checkRange(steps, 1, MOST_STEPS);
        checkProgram();
        checkRoom(strategyCount);
        Strategy made = strategies[strategyCount];
        for (int gain = 0; gain < MOST_GAINS; gain++) {
            made.weights[gain] = weights[gain];
        }
        made.steps = steps;
        planner.plan(made);
        strategyCount++;
        return strategyCount - 1;
    }

    public int takes(int strategy, int state, int left)
            throws IndexOutOfBoundsException, IllegalArgumentException {
        checkStrategy(strategy);
        checkState(state);
        Strategy asked = strategies[strategy];
        checkRange(left, 1, asked.steps);
        return asked.takenIn(state, left);
    }

    public long worth(int strategy, int state, int left)
            throws IndexOutOfBoundsException, IllegalArgumentException {
        checkStrategy(strategy);
        checkState(state);
        Strategy asked = strategies[strategy];
        checkRange(left, 0, asked.steps);
        return entry(asked.worths, left * MOST_STATES + state);
    }

    public long brings(int strategy, int gain) throws IndexOutOfBoundsException {
        checkStrategy(strategy);
        checkGain(gain);
        return strategies[strategy].brought[gain];
    }

    public int chance(int strategy) throws IndexOutOfBoundsException {
        checkStrategy(strategy);
        return strategies[strategy].goalChance;
    }

    public boolean isWorthHaving(int strategy) throws IndexOutOfBoundsException {
        checkStrategy(strategy);
        for (int i = 0; i < strategyCount; i++) {
            if (isBetter(strategies[i], strategies[strategy])) {
                return false;
            }
        }
        return true;
    }

    public int sweep(int first, int second, int n, int steps)
            throws IndexOutOfBoundsException, IllegalArgumentException, IllegalStateException {
        checkGain(first);
        checkGain(second);
        checkOther(first, second);
        checkRange(n, 1, MOST_WEIGHT);
        checkRange(steps, 1, MOST_STEPS);
        int kept = strategyCount;
        for (int k = 0; k <= n; k++) {
            // checkRoom below keeps this within the rows: there is one more than may be kept.
            Strategy made = strategies[kept];
            Arrays.fill(made.weights, 0);
            made.weights[first] = k;
            made.weights[second] = n - k;
            made.steps = steps;
            planner.plan(made);
            if (!isBroughtAlready(made, kept)) {
                checkRoom(kept);
                kept++;
            }
        }
        int added = kept - strategyCount;
        strategyCount = kept;
        return added;
    }

    public long mix(int a, int b, int p, int gain)
            throws IndexOutOfBoundsException, IllegalArgumentException {
        checkStrategy(a);
        checkStrategy(b);
        checkGain(gain);
        checkRange(p, 0, WHOLE_CHANCE);
        return mixed(a, b, p, gain);
    }

    public int bestMix(int first, int second, long bound) throws IndexOutOfBoundsException {
        checkGain(first);
        checkGain(second);
        int best = -1;
        long most = 0;
        for (int a = 0; a < strategyCount; a++) {
            for (int b = a; b < strategyCount; b++) {
                for (int p = 0; p <= WHOLE_CHANCE; p++) {
                    long brought = mixed(a, b, p, first);
                    if (mixed(a, b, p, second) >= bound && (best < 0 || brought > most)) {
                        best = 100000 * a + 1000 * b + p;
                        most = brought;
                    }
                }
            }
        }
        return best;
    }

    public int drop(int strategy) throws IndexOutOfBoundsException {
        checkStrategy(strategy);
        Strategy dropped = strategies[strategy];
        for (int i = strategy; i + 1 < strategyCount; i++) {
            strategies[i] = strategies[i + 1];
        }
        strategyCount--;
        // The row goes on, behind those that are kept.
        strategies[strategyCount] = dropped;
        return strategyCount;
    }

    // ---- chances without a strategy, and playing

    public int reach(int steps, boolean isLeast)
            throws IllegalArgumentException, IllegalStateException {
        checkRange(steps, 0, MOST_STEPS);
        checkProgram();
        return planner.extremeChance(steps, isLeast);
    }

    public long seed(long z) {
        long before = player.z;
        player.z = z;
        return before;
    }

    public int play(int strategy) throws IndexOutOfBoundsException {
        checkStrategy(strategy);
        return player.playOnce(strategies[strategy]);
    }

    public long played(int what) throws IndexOutOfBoundsException {
        checkIndex(what, MOST_GAINS + 1);
        return what == 0 ? player.steps : player.sums[what - 1];
    }

    public double average(int strategy, int gain, int plays)
            throws IndexOutOfBoundsException, IllegalArgumentException {
        checkStrategy(strategy);
        checkGain(gain);
        checkRange(plays, 1, MOST_PLAYS);
        long sum = 0;
        for (int i = 0; i < plays; i++) {
            player.playOnce(strategies[strategy]);
            sum += player.sums[gain];
        }
        return (double) sum / plays;
    }

    public long digest() {
        long d = 331;
        d = d * 31 + program.variableCount;
        d = d * 31 + program.gainCount;
        d = d * 31 + program.commandCount;
        d = d * 31 + states.stateCount;
        d = d * 31 + strategyCount;
        d = d * 31 + tapeLength;
        d = d * 31 + player.z;
        for (int gain = 0; gain < program.gainCount; gain++) {
            d = d * 31 + weights[gain];
        }
        return digestOfStrategies(states.addToDigest(d));
    }

    private long digestOfStrategies(long start) {
        long d = start;
        for (int i = 0; i < strategyCount; i++) {
            Strategy strategy = strategies[i];
            d = d * 31 + strategy.steps;
            for (int gain = 0; gain < program.gainCount; gain++) {
                d = d * 31 + strategy.brought[gain];
            }
            d = d * 31 + strategy.goalChance;
            for (int state = 0; state < states.stateCount; state++) {
                d = d * 31 + strategy.takenIn(state, strategy.steps);
            }
        }
        return d;
    }

    private void append(int number) {
        for (int shift = 24; shift >= 0; shift -= 8) {
            if (tapeLength < MOST_BYTES) {
                tape[tapeLength] = (number >>> shift) & 255;
                tapeLength++;
            }
        }
    }

    private void forgetProgram() {
        program.clear();
        states.clear();
        player.clear();
        strategyCount = 0;
        Arrays.fill(weights, 0);
    }

    private boolean isBetter(Strategy one, Strategy other) {
        boolean isMore = false;
        for (int gain = 0; gain < program.gainCount; gain++) {
            if (one.brought[gain] < other.brought[gain]) {
                return false;
            }
            isMore = isMore || one.brought[gain] > other.brought[gain];
        }
        return isMore;
    }

    private boolean isBroughtAlready(Strategy made, int kept) {
        for (int i = 0; i < kept; i++) {
            boolean isSame = true;
            for (int gain = 0; gain < program.gainCount; gain++) {
                isSame = isSame && strategies[i].brought[gain] == made.brought[gain];
            }
            if (isSame) {
                return true;
            }
        }
        return false;
    }

    private long mixed(int a, int b, int p, int gain) {
        long ofFirst = strategies[a].brought[gain];
        long ofSecond = strategies[b].brought[gain];
        return (p * ofFirst + (WHOLE_CHANCE - p) * ofSecond) / WHOLE_CHANCE;
    }

    private void checkState(int state) {
        checkIndex(state, states.stateCount);
    }

    private void checkChoice(int state, int choice) {
        checkState(state);
        checkIndex(choice, states.choiceCounts[state]);
    }

    private void checkGain(int gain) {
        checkIndex(gain, program.gainCount);
    }

    private void checkStrategy(int strategy) {
        checkIndex(strategy, strategyCount);
    }

    private void checkIndex(int index, int size) {
        if (index < 0 || index >= size) {
            throw new IndexOutOfBoundsException("there is no such number");
        }
    }

    private void checkRange(int number, int least, int greatest) {
        if (number < least || number > greatest) {
            throw new IllegalArgumentException("the number is out of its range");
        }
    }

    private void checkOther(int first, int second) {
        if (first == second) {
            throw new IllegalArgumentException("the gains are the same");
        }
    }

    private void checkProgram() {
        if (states.stateCount == 0) {
            throw new IllegalStateException("there is no program");
        }
    }

    private void checkRoom(int kept) {
        if (kept >= MOST_STRATEGIES) {
            throw new IllegalStateException("there are too many strategies");
        }
    }

    // Reads of rows at places that other rows tell go through these, so that none can miss a row.
    private static int entry(int[] row, int index) {
        return index >= 0 && index < row.length ? row[index] : 0;
    }

    private static long entry(long[] row, int index) {
        return index >= 0 && index < row.length ? row[index] : 0;
    }

    /** The tokens of a tape, with one of the kind END behind them. */
    private static final class Tokens {
        private final int[] kinds = new int[MOST_BYTES + 1];
        private final int[] starts = new int[MOST_BYTES + 1];
        // A number's value, or the bytes of a word, packed into one number.
        private final long[] contents = new long[MOST_BYTES + 1];
        private int size;

        void read(int[] bytes, int length) {
            size = 0;
            int at = 0;
            for (int n = 0; n < MOST_BYTES && at < length; n++) {
                at = readOne(bytes, length, at);
            }
            put(END, length, 0);
        }

        int kindOf(int token) {
            return token >= 0 && token < size ? kinds[token] : MISFIT;
        }

        long contentOf(int token) {
            return token >= 0 && token < size ? contents[token] : 0;
        }

        private int readOne(int[] bytes, int length, int at) {
            int first = bytes[at];
            if (first == ' ' || first == '\n') {
                return at + 1;
            }
            if (isLetter(first)) {
                return readWord(bytes, length, at);
            }
            if (isDigit(first)) {
                return readNumber(bytes, length, at);
            }
            return readSymbol(bytes, length, at);
        }

        private int readWord(int[] bytes, int length, int start) {
            long packed = 0;
            int end = start;
            while (end < length && (isLetter(bytes[end]) || isDigit(bytes[end]))) {
                packed = packed * 256 + bytes[end];
                end++;
            }
            put(end - start > MOST_WORD_BYTES ? MISFIT : kindOfWord(packed), start, packed);
            return end;
        }

        private int readNumber(int[] bytes, int length, int start) {
            long number = 0;
            int end = start;
            while (end < length && isDigit(bytes[end])) {
                number = number * 10 + (bytes[end] - '0');
                end++;
            }
            put(end - start > MOST_DIGITS ? MISFIT : NUMBER, start, number);
            return end;
        }

        private int readSymbol(int[] bytes, int length, int start) {
            int first = bytes[start];
            int second = start + 1 < length ? bytes[start + 1] : 0;
            int kind = kindOfPair(first, second);
            if (kind != MISFIT) {
                put(kind, start, 0);
                return start + 2;
            }
            // A ":" fits nowhere in a program, just as a byte with which no token begins.
            put(SYMBOLS.indexOf((char) first) >= 0 ? first : MISFIT, start, 0);
            return start + 1;
        }

        private void put(int kind, int start, long content) {
            if (size < kinds.length) {
                kinds[size] = kind;
                starts[size] = start;
                contents[size] = content;
                size++;
            }
        }

        private static int kindOfPair(int first, int second) {
            if (first == '<' && second == '=') {
                return AT_MOST;
            }
            if (first == '>' && second == '=') {
                return AT_LEAST;
            }
            return first == '<' && second == '>' ? UNEQUAL : MISFIT;
        }

        private static int kindOfWord(long packed) {
            int kind = VAR;
            long keyword = 0;
            for (int i = 0; i < KEYWORDS.length(); i++) {
                char c = KEYWORDS.charAt(i);
                if (c != ' ') {
                    keyword = keyword * 256 + c;
                } else if (keyword == packed) {
                    return kind;
                } else {
                    keyword = 0;
                    kind++;
                }
            }
            return NAME;
        }

        private static boolean isLetter(int c) {
            return c >= 'a' && c <= 'z';
        }

        private static boolean isDigit(int c) {
            return c >= '0' && c <= '9';
        }
    }

    /** Expressions, each as a row of operations behind their operands. */
    private static final class Code {
        private final int[] operations = new int[MOST_BYTES];
        private final long[] operands = new long[MOST_BYTES];
        private int length;
        private final int[] begins = new int[MOST_BYTES];
        private final int[] ends = new int[MOST_BYTES];
        private int expressionCount;
        private final long[] stack = new long[MOST_EXPRESSION_TOKENS];

        void clear() {
            length = 0;
            expressionCount = 0;
        }

        int beginExpression() {
            if (expressionCount >= begins.length) {
                return -1;
            }
            begins[expressionCount] = length;
            ends[expressionCount] = length;
            expressionCount++;
            return expressionCount - 1;
        }

        /** Adds an operation to the expression that was begun last. */
        void add(int operation, long operand) {
            if (length < operations.length && expressionCount > 0) {
                operations[length] = operation;
                operands[length] = operand;
                length++;
                ends[expressionCount - 1] = length;
            }
        }

        /** What an expression yields, where the values of the variables stand in a row. */
        long reckon(int expression, int[] values, int from) {
            if (expression < 0 || expression >= expressionCount) {
                return 0;
            }
            int height = 0;
            for (int i = begins[expression]; i < ends[expression]; i++) {
                int operation = operations[i];
                if (operation == NUMBER) {
                    height = push(height, operands[i]);
                } else if (operation == NAME) {
                    int at = from + (int) operands[i];
                    height = push(height, entry(values, at));
                } else if (isUnary(operation)) {
                    if (height >= 1) {
                        stack[height - 1] = unary(operation, stack[height - 1]);
                    }
                } else if (height >= 2) {
                    height--;
                    stack[height - 1] = binary(operation, stack[height - 1], stack[height]);
                }
            }
            return height > 0 ? stack[0] : 0;
        }

        private int push(int height, long number) {
            if (height >= stack.length) {
                return height;
            }
            stack[height] = number;
            return height + 1;
        }

        private static boolean isUnary(int operation) {
            return operation == NEGATE || operation == NOT || operation == ABS;
        }

        private static long unary(int operation, long x) {
            if (operation == NEGATE) {
                return -x;
            }
            if (operation == NOT) {
                return x == 0 ? 1 : 0;
            }
            return Math.abs(x);
        }

        private static long binary(int operation, long x, long y) {
            switch (operation) {
                case '+':
                    return x + y;
                case '-':
                    return x - y;
                case '*':
                    return x * y;
                case '/':
                    return y == 0 ? 0 : x / y;
                case '%':
                    return y == 0 ? 0 : x % y;
                case MIN:
                    return Math.min(x, y);
                case MAX:
                    return Math.max(x, y);
                case AND:
                    return x != 0 && y != 0 ? 1 : 0;
                case OR:
                    return x != 0 || y != 0 ? 1 : 0;
                default:
                    return isRelated(operation, x, y) ? 1 : 0;
            }
        }

        private static boolean isRelated(int operation, long x, long y) {
            switch (operation) {
                case '=':
                    return x == y;
                case UNEQUAL:
                    return x != y;
                case '<':
                    return x < y;
                case '>':
                    return x > y;
                case AT_MOST:
                    return x <= y;
                default:
                    return x >= y;
            }
        }
    }

    /** What a program tells: its variables, gains, goal and commands. */
    private static final class Program {
        private int variableCount;
        private final long[] variableNames = new long[MOST_VARIABLES];
        private final int[] firstValues = new int[MOST_VARIABLES];
        private final int[] least = new int[MOST_VARIABLES];
        private final int[] greatest = new int[MOST_VARIABLES];
        private int gainCount;
        private final long[] gainNames = new long[MOST_GAINS];
        // The command that a gain belongs to, or -1 if it belongs to all.
        private final int[] gainCommands = new int[MOST_GAINS];
        private final int[] gainExpressions = new int[MOST_GAINS];
        // The number of an expression, or -1.
        private int goalExpression = -1;
        private int commandCount;
        private final long[] commandNames = new long[MOST_COMMANDS];
        private final int[] commandStarts = new int[MOST_COMMANDS];
        private final int[] whenExpressions = new int[MOST_COMMANDS];
        private final int[] branchCounts = new int[MOST_COMMANDS];
        private final int[] chances = new int[MOST_COMMANDS * MOST_BRANCHES];
        // For each branch and each variable the number of an expression, or -1 if it is not set.
        private final int[] setExpressions =
                new int[MOST_COMMANDS * MOST_BRANCHES * MOST_VARIABLES];

        void clear() {
            variableCount = 0;
            gainCount = 0;
            commandCount = 0;
            goalExpression = -1;
        }

        void addVariable(long name, int firstValue, int lowest, int highest) {
            if (variableCount < MOST_VARIABLES) {
                variableNames[variableCount] = name;
                firstValues[variableCount] = firstValue;
                least[variableCount] = lowest;
                greatest[variableCount] = highest;
                variableCount++;
            }
        }

        void addGain(long name, int command, int expression) {
            if (gainCount < MOST_GAINS) {
                gainNames[gainCount] = name;
                gainCommands[gainCount] = command;
                gainExpressions[gainCount] = expression;
                gainCount++;
            }
        }

        void addCommand(long name, int start, int when) {
            if (commandCount < MOST_COMMANDS) {
                commandNames[commandCount] = name;
                commandStarts[commandCount] = start;
                whenExpressions[commandCount] = when;
                branchCounts[commandCount] = 0;
                commandCount++;
            }
        }

        /** Adds a branch to the latest command. */
        void addBranch(int chance) {
            int branches = latestBranches();
            if (commandCount > 0 && branches < MOST_BRANCHES) {
                int branch = (commandCount - 1) * MOST_BRANCHES + branches;
                chances[branch] = chance;
                for (int i = 0; i < MOST_VARIABLES; i++) {
                    setExpressions[branch * MOST_VARIABLES + i] = -1;
                }
                branchCounts[commandCount - 1] = branches + 1;
            }
        }

        /** Sets a variable in the latest branch. */
        void addSetting(int variable, int expression) {
            int at = latestSetting(variable);
            if (at >= 0) {
                setExpressions[at] = expression;
            }
        }

        boolean isSetInLatest(int variable) {
            int at = latestSetting(variable);
            return at >= 0 && setExpressions[at] >= 0;
        }

        int latestBranches() {
            return commandCount > 0 ? branchCounts[commandCount - 1] : 0;
        }

        int latestChances() {
            int sum = 0;
            for (int i = 0; i < latestBranches(); i++) {
                sum += chances[(commandCount - 1) * MOST_BRANCHES + i];
            }
            return sum;
        }

        int variableNamed(long name) {
            return indexOf(variableNames, variableCount, name);
        }

        boolean isNameTaken(long name) {
            return variableNamed(name) >= 0
                    || indexOf(gainNames, gainCount, name) >= 0
                    || indexOf(commandNames, commandCount, name) >= 0;
        }

        private int latestSetting(int variable) {
            int branches = latestBranches();
            if (branches == 0 || variable < 0 || variable >= MOST_VARIABLES) {
                return -1;
            }
            int branch = (commandCount - 1) * MOST_BRANCHES + branches - 1;
            return branch * MOST_VARIABLES + variable;
        }

        private static int indexOf(long[] names, int size, long name) {
            for (int i = 0; i < size && i < names.length; i++) {
                if (names[i] == name) {
                    return i;
                }
            }
            return -1;
        }
    }

    /**
     * Reads tokens twice: first for their form alone, then, if the form is right, for their
     * meaning. Behind an error no token fits any more, so that all readers come to their end.
     */
    private static final class Parser {
        private final Tokens tokens;
        private final Code code;
        private final Program program;
        private boolean isForMeaning;
        private int at;
        // The tokens from this one on can't be taken now.
        private int limit;
        private int error;
        private int errorPosition;

        Parser(Tokens tokens, Code code, Program program) {
            this.tokens = tokens;
            this.code = code;
            this.program = program;
        }

        void readProgram(boolean isForMeaningNow) {
            begin(isForMeaningNow);
            int n = 0;
            do {
                switch (look()) {
                    case VAR:
                        readVariable();
                        break;
                    case GAIN:
                        readGain();
                        break;
                    case GOAL:
                        readGoal();
                        break;
                    case DO:
                        readCommand();
                        break;
                    default:
                        fail(ERROR_OF_FORM, at);
                }
                n++;
            } while (n < MOST_BYTES && error == 0 && look() != END);
            demand(program.variableCount > 0 && program.commandCount > 0, ERROR_NOTHING, at);
        }

        /** Reads the tokens as one expression, which has the number 0 then. */
        void readLoneExpression(boolean isForMeaningNow) {
            begin(isForMeaningNow);
            readExpression();
            if (look() != END) {
                fail(ERROR_OF_FORM, at);
            }
        }

        private void begin(boolean isForMeaningNow) {
            isForMeaning = isForMeaningNow;
            at = 0;
            limit = tokens.size;
            error = 0;
            errorPosition = -1;
            code.clear();
        }

        private void readVariable() {
            int item = expect(VAR);
            int name = expect(NAME);
            expect('=');
            int first = readWhole();
            expect(IN);
            int least = readWhole();
            expect(TO);
            int greatest = readWhole();
            expect(';');
            demand(program.variableCount < MOST_VARIABLES, ERROR_TOO_MANY, item);
            demandNewName(name);
            int from = wholeAt(least);
            int to = wholeAt(greatest);
            int value = wholeAt(first);
            demand(from >= -MOST_BOUND && from <= MOST_BOUND, ERROR_RANGE, least);
            demand(to >= -MOST_BOUND && to <= MOST_BOUND, ERROR_RANGE, greatest);
            demand(from <= to, ERROR_RANGE, greatest);
            demand(from <= value && value <= to, ERROR_RANGE, first);
            if (isMeaningRight()) {
                program.addVariable(tokens.contentOf(name), value, from, to);
            }
        }

        private void readGain() {
            demand(program.gainCount < MOST_GAINS, ERROR_TOO_MANY, at);
            expect(GAIN);
            int name = expect(NAME);
            demandNewName(name);
            int command = -1;
            if (accept(PER)) {
                int per = expect(NAME);
                command = commandNamed(tokens.contentOf(per));
                demand(command >= 0, ERROR_UNKNOWN, per);
            }
            expect('=');
            int expression = readExpression();
            expect(';');
            if (isMeaningRight()) {
                program.addGain(tokens.contentOf(name), command, expression);
            }
        }

        private void readGoal() {
            demand(program.goalExpression < 0, ERROR_TOO_MANY, at);
            expect(GOAL);
            int expression = readExpression();
            expect(';');
            if (isMeaningRight()) {
                program.goalExpression = expression;
            }
        }

        private void readCommand() {
            demand(program.commandCount < MOST_COMMANDS, ERROR_TOO_MANY, at);
            expect(DO);
            int name = expect(NAME);
            demandNewName(name);
            expect(WHEN);
            int when = readExpression();
            if (isMeaningRight()) {
                program.addCommand(tokens.contentOf(name), entry(tokens.starts, name), when);
            }
            int n = 0;
            do {
                readBranch();
                n++;
            } while (n < MOST_BYTES && accept(ALSO));
            expect(';');
            demand(program.latestChances() == WHOLE_CHANCE, ERROR_CHANCES, name);
        }

        private void readBranch() {
            demand(program.latestBranches() < MOST_BRANCHES, ERROR_TOO_MANY, at);
            expect(GO);
            int number = expect(NUMBER);
            long chance = tokens.contentOf(number);
            demand(chance >= 1 && chance <= WHOLE_CHANCE, ERROR_RANGE, number);
            if (isMeaningRight()) {
                program.addBranch((int) chance);
            }
            boolean isMore = accept(SET);
            for (int n = 0; n < MOST_BYTES && isMore; n++) {
                int name = expect(NAME);
                int variable = program.variableNamed(tokens.contentOf(name));
                demand(variable >= 0, ERROR_UNKNOWN, name);
                demand(!program.isSetInLatest(variable), ERROR_TAKEN, name);
                expect('=');
                int expression = readExpression();
                if (isMeaningRight()) {
                    program.addSetting(variable, expression);
                }
                isMore = accept(',');
            }
        }

        /** Returns the token of the number, without the sign. */
        private int readWhole() {
            accept('-');
            return expect(NUMBER);
        }

        private int wholeAt(int token) {
            int number = (int) tokens.contentOf(token);
            return tokens.kindOf(token - 1) == '-' ? -number : number;
        }

        /** Returns the number of the expression. */
        private int readExpression() {
            limit = Math.min(at + MOST_EXPRESSION_TOKENS, tokens.size);
            int expression = code.beginExpression();
            readLevel(LOOSEST, 0);
            limit = tokens.size;
            return expression;
        }

        /** Reads operands of the next level, with the operators of this level between them. */
        private void readLevel(int level, int depth) {
            if (level > TIGHTEST) {
                readFactor(depth);
                return;
            }
            readLevel(level + 1, depth);
            int most = level == RELATION ? 1 : MOST_EXPRESSION_TOKENS;
            int operator = look();
            for (int n = 0; n < most && levelOf(operator) == level; n++) {
                at++;
                readLevel(level + 1, depth);
                code.add(operator, 0);
                operator = look();
            }
        }

        private void readFactor(int depth) {
            int kind = look();
            switch (kind) {
                case NUMBER:
                    code.add(NUMBER, tokens.contentOf(at));
                    at++;
                    break;
                case NAME:
                    int variable = program.variableNamed(tokens.contentOf(at));
                    demand(variable >= 0, ERROR_UNKNOWN, at);
                    code.add(NAME, variable);
                    at++;
                    break;
                case '(':
                    readBracket(1, depth);
                    break;
                case '-':
                case NOT:
                    if (acceptDeeper(kind, depth)) {
                        readFactor(depth + 1);
                        code.add(kind == '-' ? NEGATE : NOT, 0);
                    }
                    break;
                case MIN:
                case MAX:
                case ABS:
                    at++;
                    readBracket(kind == ABS ? 1 : 2, depth);
                    code.add(kind, 0);
                    break;
                default:
                    fail(ERROR_OF_FORM, at);
            }
        }

        /** Reads one or more expressions, with commas between them, in a bracket. */
        private void readBracket(int parts, int depth) {
            if (acceptDeeper('(', depth)) {
                readLevel(LOOSEST, depth + 1);
                for (int i = 1; i < parts; i++) {
                    expect(',');
                    readLevel(LOOSEST, depth + 1);
                }
                expect(')');
            }
        }

        /** The level of an operator between two operands; -1 if the kind is none. */
        private static int levelOf(int kind) {
            switch (kind) {
                case OR:
                    return LOOSEST;
                case AND:
                    return LOOSEST + 1;
                case '=':
                case UNEQUAL:
                case '<':
                case '>':
                case AT_MOST:
                case AT_LEAST:
                    return RELATION;
                case '+':
                case '-':
                    return RELATION + 1;
                case '*':
                case '/':
                case '%':
                    return TIGHTEST;
                default:
                    return -1;
            }
        }

        /** The number of a command, wherever in the program it stands; -1 if there is none. */
        private int commandNamed(long name) {
            int command = 0;
            for (int token = 0; token + 1 < tokens.size; token++) {
                if (tokens.kindOf(token) == DO) {
                    if (tokens.contentOf(token + 1) == name) {
                        return command;
                    }
                    command++;
                }
            }
            return -1;
        }

        /** The kind of the token that is next. */
        private int look() {
            boolean isThere = error == 0 && at < limit && at < tokens.kinds.length;
            return isThere ? tokens.kinds[at] : MISFIT;
        }

        private boolean accept(int kind) {
            if (look() != kind) {
                return false;
            }
            at++;
            return true;
        }

        /** Returns the token that was taken. */
        private int expect(int kind) {
            int token = at;
            if (look() == kind) {
                at++;
            } else {
                fail(ERROR_OF_FORM, token);
            }
            return token;
        }

        /** Takes a token behind which the depth is one greater, or fails. */
        private boolean acceptDeeper(int kind, int depth) {
            if (look() != kind || depth >= MOST_DEPTH) {
                fail(ERROR_OF_FORM, at);
                return false;
            }
            at++;
            return true;
        }

        private boolean isMeaningRight() {
            return isForMeaning && error == 0;
        }

        private void demandNewName(int token) {
            demand(!program.isNameTaken(tokens.contentOf(token)), ERROR_TAKEN, token);
        }

        private void demand(boolean isRight, int otherwise, int token) {
            if (isForMeaning && !isRight) {
                fail(otherwise, token);
            }
        }

        private void fail(int which, int token) {
            if (error == 0) {
                error = which;
                errorPosition = token < tokens.starts.length ? tokens.starts[token] : -1;
            }
        }
    }

    /** The states of a program, with the choices in each, what they gain and where they lead. */
    private static final class States {
        private final Program program;
        private final Code code;
        private int stateCount;
        private final int[] values = new int[MOST_STATES * MOST_VARIABLES];
        // -1 for a goal.
        private final int[] choiceCounts = new int[MOST_STATES];
        private final int[] commands = new int[MOST_STATES * MOST_COMMANDS];
        private final int[] targets = new int[MOST_STATES * MOST_COMMANDS * MOST_BRANCHES];
        private final long[] gains = new long[MOST_STATES * MOST_GAINS];
        private final int[] next = new int[MOST_VARIABLES];
        private int error;
        private int errorPosition;

        States(Program program, Code code) {
            this.program = program;
            this.code = code;
        }

        void clear() {
            stateCount = 0;
        }

        /** Finds all states, and keeps all that is asked of them, so that the code is free then. */
        int explore() {
            error = 0;
            errorPosition = -1;
            stateCount = 0;
            System.arraycopy(program.firstValues, 0, next, 0, MOST_VARIABLES);
            addNext();
            for (int state = 0; state < MOST_STATES && state < stateCount && error == 0; state++) {
                visit(state);
            }
            return error;
        }

        int commandOf(int state, int choice) {
            return entry(commands, state * MOST_COMMANDS + choice);
        }

        int branchesOf(int state, int choice) {
            return entry(program.branchCounts, commandOf(state, choice));
        }

        int chanceOf(int state, int choice, int branch) {
            return entry(program.chances, commandOf(state, choice) * MOST_BRANCHES + branch);
        }

        int targetOf(int state, int choice, int branch) {
            return entry(targets, (state * MOST_COMMANDS + choice) * MOST_BRANCHES + branch);
        }

        long gainOf(int state, int choice, int gain) {
            int command = entry(program.gainCommands, gain);
            if (command >= 0 && command != commandOf(state, choice)) {
                return 0;
            }
            return entry(gains, state * MOST_GAINS + gain);
        }

        boolean isGoal(int state) {
            return entry(choiceCounts, state) < 0;
        }

        long addToDigest(long start) {
            long d = start;
            for (int state = 0; state < stateCount; state++) {
                for (int variable = 0; variable < program.variableCount; variable++) {
                    d = d * 31 + values[state * MOST_VARIABLES + variable];
                }
                d = d * 31 + choiceCounts[state];
            }
            return d;
        }

        private void visit(int state) {
            int from = state * MOST_VARIABLES;
            for (int gain = 0; gain < program.gainCount; gain++) {
                gains[state * MOST_GAINS + gain] =
                        code.reckon(program.gainExpressions[gain], values, from);
            }
            // Without a goal its expression is -1, which yields 0: false in all states.
            boolean isGoalHere = code.reckon(program.goalExpression, values, from) != 0;
            choiceCounts[state] = isGoalHere ? -1 : 0;
            for (int command = 0;
                    command < program.commandCount && error == 0 && !isGoalHere; command++) {
                if (code.reckon(program.whenExpressions[command], values, from) != 0) {
                    addChoice(state, command);
                }
            }
        }

        private void addChoice(int state, int command) {
            // No more choices than commands, each of which comes here once.
            int choice = state * MOST_COMMANDS + choiceCounts[state];
            commands[choice] = command;
            choiceCounts[state]++;
            for (int i = 0; i < program.branchCounts[command]; i++) {
                if (!reckonNext(state, command * MOST_BRANCHES + i)) {
                    fail(ERROR_BOUNDS, command);
                    return;
                }
                int target = placeOfNext();
                if (target == stateCount && !addNext()) {
                    fail(ERROR_STATES, command);
                    return;
                }
                targets[choice * MOST_BRANCHES + i] = target;
            }
        }

        /** Reckons the state to which a branch leads; tells whether it is within the bounds. */
        private boolean reckonNext(int state, int branch) {
            int from = state * MOST_VARIABLES;
            for (int variable = 0; variable < program.variableCount; variable++) {
                int expression = program.setExpressions[branch * MOST_VARIABLES + variable];
                long value = values[from + variable];
                if (expression >= 0) {
                    value = code.reckon(expression, values, from);
                }
                if (value < program.least[variable] || value > program.greatest[variable]) {
                    return false;
                }
                next[variable] = (int) value;
            }
            return true;
        }

        private void fail(int which, int command) {
            error = which;
            errorPosition = program.commandStarts[command];
        }

        private boolean addNext() {
            if (stateCount >= MOST_STATES) {
                return false;
            }
            System.arraycopy(next, 0, values, stateCount * MOST_VARIABLES, MOST_VARIABLES);
            stateCount++;
            return true;
        }

        /** The number of the state in next, or the number of states if it was not found yet. */
        private int placeOfNext() {
            for (int state = 0; state < stateCount; state++) {
                boolean isSame = true;
                for (int i = 0; i < program.variableCount && isSame; i++) {
                    isSame = values[state * MOST_VARIABLES + i] == next[i];
                }
                if (isSame) {
                    return state;
                }
            }
            return stateCount;
        }
    }

    /** The choices for each state and number of steps that are left, and what they bring. */
    private static final class Strategy {
        private final int[] weights = new int[MOST_GAINS];
        private int steps;
        // By the steps that are left (from 1 for what is taken, from 0 for the worth), then states.
        private final int[] taken = new int[MOST_STEPS * MOST_STATES];
        private final long[] worths = new long[(MOST_STEPS + 1) * MOST_STATES];
        private final long[] brought = new long[MOST_GAINS];
        private int goalChance;

        int takenIn(int state, int left) {
            return entry(taken, (left - 1) * MOST_STATES + state);
        }
    }

    /** Makes strategies, and reckons what they bring. */
    private static final class Planner {
        private final States states;
        // One number a state, with one step less that is left, and with the steps of now.
        private final long[] before = new long[MOST_STATES];
        private final long[] now = new long[MOST_STATES];

        Planner(States states) {
            this.states = states;
        }

        /** Fills a strategy whose weights and steps are set. */
        void plan(Strategy strategy) {
            // The row for 0 steps left is 0 from the beginning, and is never written.
            for (int left = 1; left <= strategy.steps && left <= MOST_STEPS; left++) {
                for (int state = 0; state < states.stateCount; state++) {
                    choose(strategy, state, left);
                }
            }
            for (int gain = 0; gain < states.program.gainCount; gain++) {
                strategy.brought[gain] = gainOfAll(strategy, gain);
            }
            strategy.goalChance = chanceOfAll(strategy);
        }

        /** The least or greatest chance of a goal in state 0. */
        int extremeChance(int steps, boolean isLeast) {
            startChances();
            for (int left = 1; left <= steps; left++) {
                for (int state = 0; state < states.stateCount; state++) {
                    now[state] = extremeIn(state, isLeast);
                }
                stepOn();
            }
            return (int) before[0];
        }

        private void choose(Strategy strategy, int state, int left) {
            int best = -1;
            long most = 0;
            for (int choice = 0; choice < states.choiceCounts[state]; choice++) {
                long worth = WORTH_UNIT * weighted(strategy, state, choice)
                        + later(strategy.worths, (left - 1) * MOST_STATES, state, choice);
                if (best < 0 || worth > most) {
                    best = choice;
                    most = worth;
                }
            }
            strategy.taken[(left - 1) * MOST_STATES + state] = best;
            strategy.worths[left * MOST_STATES + state] = most;
        }

        private long weighted(Strategy strategy, int state, int choice) {
            long sum = 0;
            for (int gain = 0; gain < states.program.gainCount; gain++) {
                sum += strategy.weights[gain] * states.gainOf(state, choice, gain);
            }
            return sum;
        }

        private long gainOfAll(Strategy strategy, int gain) {
            Arrays.fill(before, 0);
            for (int left = 1; left <= strategy.steps; left++) {
                for (int state = 0; state < states.stateCount; state++) {
                    int choice = strategy.takenIn(state, left);
                    now[state] = choice < 0 ? 0
                            : WORTH_UNIT * states.gainOf(state, choice, gain)
                                    + later(before, 0, state, choice);
                }
                stepOn();
            }
            return before[0];
        }

        private int chanceOfAll(Strategy strategy) {
            startChances();
            for (int left = 1; left <= strategy.steps; left++) {
                for (int state = 0; state < states.stateCount; state++) {
                    int choice = strategy.takenIn(state, left);
                    now[state] = choice < 0 ? before[state] : later(before, 0, state, choice);
                }
                stepOn();
            }
            return (int) before[0];
        }

        private long extremeIn(int state, boolean isLeast) {
            // A goal and a state without choices keep the chance that they have at the end.
            long extreme = before[state];
            for (int choice = 0; choice < states.choiceCounts[state]; choice++) {
                long chance = later(before, 0, state, choice);
                if (choice == 0 || (isLeast ? chance < extreme : chance > extreme)) {
                    extreme = chance;
                }
            }
            return extreme;
        }

        private void startChances() {
            for (int state = 0; state < states.stateCount; state++) {
                before[state] = states.isGoal(state) ? CERTAIN : 0;
            }
        }

        private void stepOn() {
            System.arraycopy(now, 0, before, 0, MOST_STATES);
        }

        /** The mean, over the branches of a choice, of numbers that stand in a row, one a state. */
        private long later(long[] row, int from, int state, int choice) {
            long sum = 0;
            for (int branch = 0; branch < states.branchesOf(state, choice); branch++) {
                long number = entry(row, from + states.targetOf(state, choice, branch));
                sum += states.chanceOf(state, choice, branch) * number;
            }
            return sum / WHOLE_CHANCE;
        }
    }

    /** Plays strategies with a die, and keeps what the latest play brought. */
    private static final class Player {
        private final States states;
        private long z;
        private int steps;
        private final long[] sums = new long[MOST_GAINS];

        Player(States states) {
            this.states = states;
        }

        /** Forgets the latest play; the die goes on. */
        void clear() {
            steps = 0;
            Arrays.fill(sums, 0L);
        }

        /** Returns the state in which the play ends. */
        int playOnce(Strategy strategy) {
            clear();
            int state = 0;
            for (int left = strategy.steps; left > 0; left--) {
                int choice = strategy.takenIn(state, left);
                if (choice < 0) {
                    return state;
                }
                for (int gain = 0; gain < states.program.gainCount; gain++) {
                    sums[gain] += states.gainOf(state, choice, gain);
                }
                state = targetByDie(state, choice);
                steps++;
            }
            return state;
        }

        private int targetByDie(int state, int choice) {
            int thrown = throwDie();
            int sum = 0;
            int branches = states.branchesOf(state, choice);
            for (int branch = 0; branch < branches; branch++) {
                sum += states.chanceOf(state, choice, branch);
                if (sum > thrown) {
                    return states.targetOf(state, choice, branch);
                }
            }
            // Not met: the chances of a command are 100 together, more than any throw.
            return state;
        }

        private int throwDie() {
            z = z * 6364136223846793005L + 1442695040888963407L;
            return (int) ((z >>> 33) % 100);
        }
    }
}
