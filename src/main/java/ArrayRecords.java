/** An array of 64 words with records, and the small language of records that works on it. */
public final class ArrayRecords {
    private static final int WORDS = 64;
    private static final int KINDS = 7;
    private static final int FIELDS = 6;
    private static final int BITS = 32;
    private static final int BITS_TOGETHER = 84;
    private static final int VARIABLES = 20;
    private static final int TAPE = 500;
    private static final int FED = 8;
    private static final int TOKENS = 150;
    private static final int LETTERS = 8;
    private static final int HIGHEST = 2147483647;
    private static final int DEPTH = 10;
    private static final int FUEL = 20000;
    private static final int KEPT = 64;
    private static final int NONE = -1;
    // Far above what the fuel allows: between two steps that cost stand some ten that do not.
    private static final int TURNS = 1000000;

    private static final int THROUGH = 0;
    private static final int SPENT = 1;
    private static final int FULL = 2;

    // The sorts of tokens. Words, signs and double signs are numbered in the order of these texts.
    private static final String VOCABULARY =
            "kind insert delete where set let print each by if else while remove and or not count sum least greatest";
    private static final String SIGNS = "=<>+-*/%(){},;:.";
    private static final String DOUBLES = "!<>";
    private static final int END = 0;
    private static final int KIND = 1;
    private static final int INSERT = 2;
    private static final int DELETE = 3;
    private static final int WHERE = 4;
    private static final int SET = 5;
    private static final int LET = 6;
    private static final int PRINT = 7;
    private static final int EACH = 8;
    private static final int BY = 9;
    private static final int IF = 10;
    private static final int ELSE = 11;
    private static final int WHILE = 12;
    private static final int REMOVE = 13;
    private static final int AND = 14;
    private static final int OR = 15;
    private static final int NOT = 16;
    private static final int COUNT = 17;
    private static final int SUM = 18;
    private static final int LEAST = 19;
    private static final int GREATEST = 20;
    private static final int EQUAL = 21;
    private static final int LESS = 22;
    private static final int GREATER = 23;
    private static final int PLUS = 24;
    private static final int MINUS = 25;
    private static final int TIMES = 26;
    private static final int OVER = 27;
    private static final int REST = 28;
    private static final int OPEN = 29;
    private static final int CLOSE = 30;
    private static final int BEGIN = 31;
    private static final int FINISH = 32;
    private static final int COMMA = 33;
    private static final int SEMICOLON = 34;
    private static final int COLON = 35;
    private static final int DOT = 36;
    private static final int UNEQUAL = 37;
    private static final int AT_MOST = 38;
    private static final int AT_LEAST = 39;
    private static final int NAME = 40;
    private static final int NUMBER = 41;
    private static final int WRONG = 42;
    private static final int TOO_MANY = 43;

    // Acts of steps and parts that no token has the number of.
    private static final int NEGATE = 44;
    private static final int VARIABLE = 45;
    private static final int FIELD = 46;
    private static final int CURSOR = 47;
    private static final int NEXT = 48;
    private static final int JUMP = 49;
    private static final int CHANGE = 50;

    private final Tokens tokens = new Tokens();
    private final Names names = new Names();
    private final Words words = new Words();
    private final Program program = new Program();
    private final Reader reader = new Reader(tokens, names, program);
    private final Machine machine = new Machine(program, names, words);
    private boolean ready;
    private int place = NONE;

    public ArrayRecords() {
    }

    public int feed(long bytes, int n) throws IllegalArgumentException, IllegalStateException {
        if (n < 1 || n > FED) {
            throw new IllegalArgumentException();
        }
        if (tokens.length + n > TAPE) {
            throw new IllegalStateException();
        }
        for (int k = n - 1; k >= 0; k--) {
            tokens.add((char) (bytes >>> 8 * k & 255));
        }
        return tokens.length;
    }

    public int load() throws IllegalArgumentException {
        names.keep();
        tokens.scan();
        ready = reader.reads();
        place = ready ? NONE : tokens.wrongPlace();
        tokens.length = 0;
        if (!ready) {
            names.takeBack();
            throw new IllegalArgumentException();
        }
        return tokens.count;
    }

    public int place() {
        return place;
    }

    public int run(int fuel) throws IllegalArgumentException, IllegalStateException {
        if (fuel < 1 || fuel > FUEL) {
            throw new IllegalArgumentException();
        }
        if (!ready) {
            throw new IllegalStateException();
        }
        return machine.goThrough(fuel);
    }

    public int steps() {
        return machine.spent;
    }

    public int printed() {
        return machine.outputs;
    }

    public int print(int k) throws IndexOutOfBoundsException {
        if (k < 0 || k >= machine.outputs || k < machine.outputs - KEPT) {
            throw new IndexOutOfBoundsException();
        }
        return machine.latest[k % KEPT];
    }

    public int word(int w, int what) throws IllegalArgumentException {
        if (w < 0 || w >= WORDS || what < 0 || what > FIELDS) {
            throw new IllegalArgumentException();
        }
        int kind = words.kindOf(w);
        if (what == 0 || kind == 0) {
            return kind;
        }
        return words.values[w][what - 1];
    }

    public int records() {
        return Long.bitCount(words.taken());
    }

    /** The tape, and its text cut into tokens of which one is the current one. */
    private static final class Tokens {
        private final long[] vocabulary = new long[GREATEST + 1];
        private final char[] tape = new char[TAPE];
        private final int[] sorts = new int[TOKENS + 1];
        private final int[] places = new int[TOKENS + 1];
        private final long[] values = new long[TOKENS + 1];
        private int length;
        private int count;
        private int at;

        Tokens() {
            int sort = KIND;
            for (int k = 0; k < VOCABULARY.length(); k++) {
                char c = VOCABULARY.charAt(k);
                if (c == ' ') {
                    sort++;
                } else {
                    vocabulary[sort] = longer(vocabulary[sort], c);
                }
            }
        }

        void add(char c) {
            tape[length] = c;
            length++;
        }

        /** Behind the last token stands one of the sort END or TOO_MANY. */
        void scan() {
            at = 0;
            int from = behindBlanks(0);
            for (count = 0; count < TOKENS && from < length; count++) {
                places[count] = from;
                from = behindBlanks(cut(from));
            }
            places[count] = from;
            sorts[count] = from < length ? TOO_MANY : END;
        }

        int sort() {
            return sorts[at];
        }

        /** 0 when the current token is not a name. */
        long name() {
            return sorts[at] == NAME ? values[at] : 0;
        }

        /** NONE when the current token is not a number. */
        int number() {
            return sorts[at] == NUMBER ? (int) values[at] : NONE;
        }

        void pass() {
            if (at < count) {
                at++;
            }
        }

        boolean passed(int sort) {
            boolean here = sorts[at] == sort;
            at += here ? 1 : 0;
            return here;
        }

        void take(int sort) {
            if (sorts[at] != sort) {
                throw new IllegalArgumentException();
            }
            at++;
        }

        int wrongPlace() {
            return sorts[at] == TOO_MANY ? NONE : places[at];
        }

        private int behindBlanks(int from) {
            int to = from;
            while (to < length && (tape[to] == ' ' || tape[to] == '\n')) {
                to++;
            }
            return to;
        }

        private int cut(int from) {
            if (isLetter(tape[from])) {
                return cutName(from);
            }
            if (isDigit(tape[from])) {
                return cutNumber(from);
            }
            return cutSign(from);
        }

        private int cutName(int from) {
            long name = 0;
            int to = from;
            while (to < length && isLetter(tape[to])) {
                name = longer(name, tape[to]);
                to++;
            }
            values[count] = name;
            sorts[count] = to - from > LETTERS ? WRONG : wordOrName(name);
            return to;
        }

        private int wordOrName(long name) {
            for (int sort = KIND; sort <= GREATEST; sort++) {
                if (vocabulary[sort] == name) {
                    return sort;
                }
            }
            return NAME;
        }

        private int cutNumber(int from) {
            long number = 0;
            int to = from;
            while (to < length && isDigit(tape[to])) {
                // Held just above the highest int, so that no row of digits wraps around.
                number = Math.min(number * 10 + tape[to] - '0', HIGHEST + 1L);
                to++;
            }
            values[count] = number;
            sorts[count] = number > HIGHEST ? WRONG : NUMBER;
            return to;
        }

        private int cutSign(int from) {
            int twice = from + 1 < length && tape[from + 1] == '=' ? DOUBLES.indexOf(tape[from]) : NONE;
            if (twice != NONE) {
                sorts[count] = UNEQUAL + twice;
                return from + 2;
            }
            int single = SIGNS.indexOf(tape[from]);
            sorts[count] = single == NONE ? WRONG : EQUAL + single;
            return from + 1;
        }

        private static boolean isLetter(char c) {
            return c >= 'a' && c <= 'z';
        }

        private static boolean isDigit(char c) {
            return c >= '0' && c <= '9';
        }

        /** A name is packed into a long, five bits a letter: no two names of 8 letters are the same then. */
        private static long longer(long name, char letter) {
            return name * 32 + (letter - 'a' + 1);
        }
    }

    /** The kinds with their fields, and the variables: what stays from program to program. */
    private static final class Names {
        private final long[] kinds = new long[KINDS + 1];
        private final int[] widths = new int[KINDS + 1];
        private final long[][] fields = new long[KINDS + 1][FIELDS];
        private final int[][] masks = new int[KINDS + 1][FIELDS];
        private final long[] variables = new long[VARIABLES];
        private int kindCount;
        private int variableCount;
        private int kindsKept;
        private int variablesKept;

        void keep() {
            kindsKept = kindCount;
            variablesKept = variableCount;
        }

        void takeBack() {
            kindCount = kindsKept;
            variableCount = variablesKept;
        }

        /** 0 when there is none. */
        int kind(long name) {
            for (int k = 1; k <= kindCount; k++) {
                if (kinds[k] == name) {
                    return k;
                }
            }
            return 0;
        }

        int field(int kind, long name) {
            for (int f = 0; f < widths[kind]; f++) {
                if (fields[kind][f] == name) {
                    return f;
                }
            }
            return NONE;
        }

        int variable(long name) {
            for (int v = 0; v < variableCount; v++) {
                if (variables[v] == name) {
                    return v;
                }
            }
            return NONE;
        }

        /** 0 when there is no room. */
        int addKind(long name) {
            if (kindCount == KINDS) {
                return 0;
            }
            kindCount++;
            kinds[kindCount] = name;
            widths[kindCount] = 0;
            return kindCount;
        }

        void addField(int kind, long name, int bits) {
            int field = widths[kind];
            fields[kind][field] = name;
            masks[kind][field] = (int) ((1L << bits) - 1);
            widths[kind]++;
        }

        /** NONE when there is no room. */
        int addVariable(long name) {
            if (variableCount == VARIABLES) {
                return NONE;
            }
            variables[variableCount] = name;
            variableCount++;
            return variableCount - 1;
        }
    }

    /** The array: for each kind the set of its words, one bit a word, so that a set is searched at once. */
    private static final class Words {
        private final long[] members = new long[KINDS + 1];
        private final int[][] values = new int[WORDS][FIELDS];
        // Tells a record from a later one in its word.
        private final int[] serials = new int[WORDS];
        private int latestSerial;

        long taken() {
            long taken = 0;
            for (int k = 1; k <= KINDS; k++) {
                taken |= members[k];
            }
            return taken;
        }

        int kindOf(int w) {
            for (int k = 1; k <= KINDS; k++) {
                if ((members[k] >>> w & 1) != 0) {
                    return k;
                }
            }
            return 0;
        }

        /** The word of the new record, NONE when none is free. */
        int add(int kind) {
            int w = Long.numberOfTrailingZeros(~taken());
            if (w == WORDS) {
                return NONE;
            }
            members[kind] |= 1L << w;
            latestSerial++;
            serials[w] = latestSerial;
            for (int f = 0; f < FIELDS; f++) {
                values[w][f] = 0;
            }
            return w;
        }

        void free(int kind, long those) {
            members[kind] &= ~those;
            for (int w = 0; w < WORDS; w++) {
                if ((those >>> w & 1) != 0) {
                    serials[w] = 0;
                }
            }
        }
    }

    /** A step of a program: a statement, or a jump of a loop or of an else. */
    private static final class Step {
        private int act;
        private int kind;
        private int field;
        private int cursor;
        private int variable;
        private int where;
        private int value;
        private int puts;
        private int putsEnd;
        private int next;
    }

    /** A part of an expression, which stands behind the parts that it works on. */
    private static final class Part {
        private int act;
        private int number;
        private int kind;
        private int field;
        private int cursor;
        private int where;
        private int end;
    }

    /** The program as it is run. No token makes more than one step or part, so the rows always have room. */
    private static final class Program {
        private final Step[] steps = new Step[TOKENS + 1];
        private final Part[] parts = new Part[TOKENS + 1];
        private final int[] putFields = new int[TOKENS + 1];
        private final int[] putValues = new int[TOKENS + 1];
        private int stepCount;
        private int partCount;
        private int putCount;

        Program() {
            for (int k = 0; k <= TOKENS; k++) {
                steps[k] = new Step();
                parts[k] = new Part();
            }
        }

        void clear() {
            stepCount = 0;
            partCount = 0;
            putCount = 0;
        }

        Step addStep(int act) {
            Step step = steps[stepCount];
            step.act = act;
            stepCount++;
            return step;
        }

        Part addPart(int act) {
            Part part = parts[partCount];
            part.act = act;
            partCount++;
            return part;
        }

        void addPut(int field, int value) {
            putFields[putCount] = field;
            putValues[putCount] = value;
            putCount++;
        }
    }

    /** What is open where the reading stands, and what the names there mean. */
    private static final class Scope {
        private final Tokens tokens;
        private final Names names;
        private final Program program;
        // The steps that have a block open: IF, WHILE, NEXT of an each, JUMP of an else.
        private final int[] openers = new int[DEPTH];
        private int blocks;
        private int depth;

        Scope(Tokens tokens, Names names, Program program) {
            this.tokens = tokens;
            this.names = names;
            this.program = program;
        }

        void clear() {
            blocks = 0;
            depth = 0;
        }

        void enter(int bracket) {
            if (tokens.sort() != bracket || depth == DEPTH) {
                throw new IllegalArgumentException();
            }
            depth++;
            tokens.pass();
        }

        void leave(int bracket) {
            tokens.take(bracket);
            depth--;
        }

        void openBlock(int opener) {
            enter(BEGIN);
            openers[blocks] = opener;
            blocks++;
        }

        int closeBlock() {
            if (blocks == 0) {
                throw new IllegalArgumentException();
            }
            leave(FINISH);
            blocks--;
            return openers[blocks];
        }

        int takeKind() {
            int kind = names.kind(tokens.name());
            if (kind == 0) {
                throw new IllegalArgumentException();
            }
            tokens.pass();
            return kind;
        }

        int takeField(int kind) {
            int field = names.field(kind, tokens.name());
            if (field == NONE) {
                throw new IllegalArgumentException();
            }
            tokens.pass();
            return field;
        }

        int takeVariable() {
            long name = tokens.name();
            if (name == 0 || names.kind(name) != 0) {
                throw new IllegalArgumentException();
            }
            int variable = names.variable(name);
            if (variable == NONE) {
                variable = names.addVariable(name);
            }
            if (variable == NONE) {
                throw new IllegalArgumentException();
            }
            tokens.pass();
            return variable;
        }

        /** The cursor of the kind that the current token names; its each is the innermost one of that kind. */
        int cursor() {
            int kind = names.kind(tokens.name());
            for (int k = blocks - 1; k >= 0; k--) {
                Step opener = program.steps[openers[k]];
                if (opener.act == NEXT && opener.kind == kind) {
                    return opener.cursor;
                }
            }
            throw new IllegalArgumentException();
        }
    }

    /** Reads expressions into parts, with a stack of what waits for its right side. */
    private static final class Expressions {
        private static final int LOOSEST = 1;
        private static final int NOT_RANK = 3;
        private static final int COMPARING = 4;

        private final Tokens tokens;
        private final Names names;
        private final Program program;
        private final Scope scope;
        private final int[] waiting = new int[TOKENS + 1];
        private int top;
        private int brackets;
        // The kind of the record whose fields names are within where and set; elsewhere 0, and aggregates may stand.
        private int record;
        private int latestAggregate;

        Expressions(Tokens tokens, Names names, Program program, Scope scope) {
            this.tokens = tokens;
            this.names = names;
            this.program = program;
            this.scope = scope;
        }

        /** Where the expression's parts begin. */
        int read(int kind) {
            record = kind;
            top = 0;
            brackets = 0;
            int start = program.partCount;
            boolean wanted = true;
            for (int turn = 0; turn <= TOKENS && (wanted || goesOn()); turn++) {
                if (!wanted) {
                    wanted = tokens.sort() == CLOSE ? close() : join();
                    continue;
                }
                switch (tokens.sort()) {
                    case NUMBER:
                        program.addPart(NUMBER).number = tokens.number();
                        tokens.pass();
                        wanted = false;
                        break;
                    case NAME:
                        named();
                        wanted = false;
                        break;
                    case OPEN:
                        scope.enter(OPEN);
                        push(OPEN);
                        brackets++;
                        break;
                    case NOT:
                    case MINUS:
                        prefix();
                        break;
                    default:
                        wanted = aggregate();
                }
            }
            if (brackets > 0) {
                throw new IllegalArgumentException();
            }
            release(LOOSEST);
            program.addPart(END);
            return start;
        }

        private boolean goesOn() {
            int sort = tokens.sort();
            return sort == CLOSE ? brackets > 0 : sort != NOT && rank(sort) >= LOOSEST;
        }

        /** Whether an operand is wanted behind it: always. */
        private boolean join() {
            int sort = tokens.sort();
            int rank = rank(sort);
            release(rank == COMPARING ? rank + 1 : rank);
            if (rank == COMPARING && top > 0 && rank(waiting[top - 1]) == COMPARING) {
                throw new IllegalArgumentException();
            }
            push(sort);
            tokens.pass();
            return true;
        }

        /** Whether an operand is wanted behind it: never. */
        private boolean close() {
            release(LOOSEST);
            top--;
            brackets--;
            if (waiting[top] == WHERE) {
                program.addPart(END);
                program.parts[latestAggregate].end = program.partCount;
                record = 0;
            }
            scope.leave(CLOSE);
            return false;
        }

        private void prefix() {
            boolean isNot = tokens.sort() == NOT;
            if (isNot && top > 0 && rank(waiting[top - 1]) > NOT_RANK) {
                throw new IllegalArgumentException();
            }
            push(isNot ? NOT : NEGATE);
            tokens.pass();
        }

        private void named() {
            int field = record == 0 ? NONE : names.field(record, tokens.name());
            if (field != NONE) {
                program.addPart(FIELD).field = field;
                tokens.pass();
            } else if (names.kind(tokens.name()) != 0) {
                Part part = program.addPart(CURSOR);
                part.cursor = scope.cursor();
                int kind = scope.takeKind();
                tokens.take(DOT);
                part.field = scope.takeField(kind);
            } else {
                program.addPart(VARIABLE).number = scope.takeVariable();
            }
        }

        /** Whether it has a where, whose expression is wanted then. */
        private boolean aggregate() {
            int act = tokens.sort();
            if (act < COUNT || act > GREATEST || record != 0) {
                throw new IllegalArgumentException();
            }
            tokens.pass();
            scope.enter(OPEN);
            latestAggregate = program.partCount;
            Part part = program.addPart(act);
            part.kind = scope.takeKind();
            if (act != COUNT) {
                tokens.take(DOT);
                part.field = scope.takeField(part.kind);
            }
            boolean where = tokens.passed(WHERE);
            part.where = where ? program.partCount : NONE;
            part.end = program.partCount;
            if (where) {
                push(WHERE);
                brackets++;
                record = part.kind;
            } else {
                scope.leave(CLOSE);
            }
            return where;
        }

        private void push(int act) {
            waiting[top] = act;
            top++;
        }

        /** Makes parts of what waits and binds at least so tightly, down to an open bracket. */
        private void release(int rank) {
            while (top > 0 && rank(waiting[top - 1]) >= rank) {
                top--;
                program.addPart(waiting[top]);
            }
        }

        /** How tightly it binds; 0 for what does not join operands, as an open bracket. */
        private static int rank(int act) {
            switch (act) {
                case OR:
                    return LOOSEST;
                case AND:
                    return 2;
                case NOT:
                    return NOT_RANK;
                case EQUAL:
                case UNEQUAL:
                case LESS:
                case AT_MOST:
                case GREATER:
                case AT_LEAST:
                    return COMPARING;
                case PLUS:
                case MINUS:
                    return 5;
                case TIMES:
                case OVER:
                case REST:
                    return 6;
                case NEGATE:
                    return 7;
                default:
                    return 0;
            }
        }
    }

    /** Reads a program. What throws leaves the wrong token as the current one. */
    private static final class Reader {
        private final Tokens tokens;
        private final Names names;
        private final Program program;
        private final Scope scope;
        private final Expressions expressions;

        Reader(Tokens tokens, Names names, Program program) {
            this.tokens = tokens;
            this.names = names;
            this.program = program;
            scope = new Scope(tokens, names, program);
            expressions = new Expressions(tokens, names, program, scope);
        }

        /** Whether the program is right. */
        boolean reads() {
            scope.clear();
            program.clear();
            try {
                for (int turn = 0; turn <= TOKENS && tokens.sort() != END; turn++) {
                    switch (tokens.sort()) {
                        case KIND:
                            kind();
                            break;
                        case INSERT:
                            insert();
                            break;
                        case DELETE:
                            delete();
                            break;
                        case SET:
                            set();
                            break;
                        case LET:
                            let();
                            break;
                        case PRINT:
                            output();
                            break;
                        case EACH:
                            each();
                            break;
                        case IF:
                        case WHILE:
                            conditional();
                            break;
                        case REMOVE:
                            remove();
                            break;
                        case FINISH:
                            closeBlock();
                            break;
                        default:
                            change();
                    }
                }
                noBlockIsOpen();
            } catch (IllegalArgumentException wrong) {
                return false;
            }
            return true;
        }

        private void kind() {
            program.addStep(KIND);
            tokens.pass();
            long name = tokens.name();
            boolean free = name != 0 && names.kind(name) == 0 && names.variable(name) == NONE;
            int kind = free ? names.addKind(name) : 0;
            if (kind == 0) {
                throw new IllegalArgumentException();
            }
            tokens.pass();
            int bits = 0;
            for (int f = 0; f < FIELDS && (f == 0 || tokens.passed(COMMA)); f++) {
                bits += field(kind, BITS_TOGETHER - bits);
            }
            tokens.take(SEMICOLON);
        }

        /** The bits of the field, at most so many. */
        private int field(int kind, int most) {
            long name = tokens.name();
            if (name == 0 || names.field(kind, name) != NONE) {
                throw new IllegalArgumentException();
            }
            tokens.pass();
            tokens.take(COLON);
            int bits = tokens.number();
            if (bits < 1 || bits > BITS || bits > most) {
                throw new IllegalArgumentException();
            }
            tokens.pass();
            names.addField(kind, name, bits);
            return bits;
        }

        private void insert() {
            Step step = program.addStep(INSERT);
            tokens.pass();
            step.kind = scope.takeKind();
            puts(step, 0);
            tokens.take(SEMICOLON);
        }

        private void delete() {
            Step step = program.addStep(DELETE);
            tokens.pass();
            step.kind = scope.takeKind();
            step.where = where(step.kind);
            tokens.take(SEMICOLON);
        }

        private void set() {
            Step step = program.addStep(SET);
            tokens.pass();
            step.kind = scope.takeKind();
            step.where = where(step.kind);
            tokens.take(COLON);
            puts(step, step.kind);
            tokens.take(SEMICOLON);
        }

        private int where(int kind) {
            return tokens.passed(WHERE) ? expressions.read(kind) : NONE;
        }

        /** A comma behind all fields of the kind is passed: what is wrong then is the name behind it. */
        private void puts(Step step, int record) {
            int told = 0;
            step.puts = program.putCount;
            for (int f = 0; f <= FIELDS && (f == 0 || tokens.passed(COMMA)); f++) {
                int field = names.field(step.kind, tokens.name());
                if (field == NONE || (told >>> field & 1) != 0) {
                    throw new IllegalArgumentException();
                }
                told |= 1 << field;
                tokens.pass();
                tokens.take(EQUAL);
                program.addPut(field, expressions.read(record));
            }
            step.putsEnd = program.putCount;
        }

        private void let() {
            Step step = program.addStep(LET);
            tokens.pass();
            step.variable = scope.takeVariable();
            tokens.take(EQUAL);
            step.value = expressions.read(0);
            tokens.take(SEMICOLON);
        }

        private void output() {
            Step step = program.addStep(PRINT);
            tokens.pass();
            step.value = expressions.read(0);
            tokens.take(SEMICOLON);
        }

        private void each() {
            Step each = program.addStep(EACH);
            tokens.pass();
            each.kind = scope.takeKind();
            tokens.take(BY);
            each.field = scope.takeField(each.kind);
            each.where = where(each.kind);
            each.cursor = scope.blocks;
            int head = program.stepCount;
            Step next = program.addStep(NEXT);
            next.kind = each.kind;
            next.cursor = each.cursor;
            scope.openBlock(head);
        }

        private void conditional() {
            int head = program.stepCount;
            Step step = program.addStep(tokens.sort());
            tokens.pass();
            step.value = expressions.read(0);
            scope.openBlock(head);
        }

        private void closeBlock() {
            int head = scope.closeBlock();
            Step opener = program.steps[head];
            int end = program.stepCount;
            if (opener.act == NEXT || opener.act == WHILE) {
                program.addStep(JUMP).next = head;
            } else if (opener.act == IF && tokens.passed(ELSE)) {
                program.addStep(JUMP);
                scope.openBlock(end);
            }
            opener.next = program.stepCount;
        }

        private void remove() {
            Step step = program.addStep(REMOVE);
            tokens.pass();
            step.cursor = scope.cursor();
            step.kind = scope.takeKind();
            tokens.take(SEMICOLON);
        }

        private void change() {
            Step step = program.addStep(CHANGE);
            step.cursor = scope.cursor();
            step.kind = scope.takeKind();
            tokens.take(DOT);
            step.field = scope.takeField(step.kind);
            tokens.take(EQUAL);
            step.value = expressions.read(0);
            tokens.take(SEMICOLON);
        }

        private void noBlockIsOpen() {
            if (scope.blocks > 0) {
                throw new IllegalArgumentException();
            }
        }
    }

    /** The records that each open each goes over, in order, and the one that it stands at. */
    private static final class Cursors {
        private final Words words;
        private final int[][] order = new int[DEPTH][WORDS];
        private final int[][] serials = new int[DEPTH][WORDS];
        private final int[] sizes = new int[DEPTH];
        private final int[] ats = new int[DEPTH];

        Cursors(Words words) {
            this.words = words;
        }

        void begin(int cursor, long those, int field) {
            int[] row = order[cursor];
            int size = 0;
            for (int w = 0; w < WORDS; w++) {
                if ((those >>> w & 1) == 0) {
                    continue;
                }
                int to = size;
                while (to > 0 && words.values[row[to - 1]][field] > words.values[w][field]) {
                    row[to] = row[to - 1];
                    to--;
                }
                row[to] = w;
                size++;
            }
            for (int k = 0; k < size; k++) {
                serials[cursor][k] = words.serials[row[k]];
            }
            sizes[cursor] = size;
            ats[cursor] = NONE;
        }

        /** Whether it stands at a next record that is still there. */
        boolean moves(int cursor) {
            for (int k = ats[cursor] + 1; k < sizes[cursor]; k++) {
                ats[cursor] = k;
                if (at(cursor) != NONE) {
                    return true;
                }
            }
            return false;
        }

        /** The word of its record, NONE when that is gone. */
        int at(int cursor) {
            int k = ats[cursor];
            int w = order[cursor][k];
            return words.serials[w] == serials[cursor][k] ? w : NONE;
        }
    }

    /** Runs the program. */
    private static final class Machine {
        private final Program program;
        private final Names names;
        private final Words words;
        private final Cursors cursors;
        private final int[] variables = new int[VARIABLES];
        private final int[] latest = new int[KEPT];
        private final int[] stack = new int[TOKENS + 1];
        private final int[][] changes = new int[WORDS][FIELDS];
        private int outputs;
        private int tank;
        private int spent;

        Machine(Program program, Names names, Words words) {
            this.program = program;
            this.names = names;
            this.words = words;
            cursors = new Cursors(words);
        }

        int goThrough(int fuel) {
            tank = fuel;
            spent = 0;
            int at = 0;
            for (int turn = 0; turn < TURNS && at < program.stepCount; turn++) {
                Step step = program.steps[at];
                at++;
                if (step.act != JUMP && step.act != NEXT && !spend()) {
                    return SPENT;
                }
                switch (step.act) {
                    case INSERT:
                        if (!insert(step)) {
                            return FULL;
                        }
                        break;
                    case NEXT:
                        if (!cursors.moves(step.cursor)) {
                            at = step.next;
                        } else if (!spend()) {
                            return SPENT;
                        }
                        break;
                    case IF:
                    case WHILE:
                        at = value(step.value) == 0 ? step.next : at;
                        break;
                    case JUMP:
                        at = step.next;
                        break;
                    default:
                        act(step);
                }
            }
            return THROUGH;
        }

        private boolean spend() {
            if (spent == tank) {
                return false;
            }
            spent++;
            return true;
        }

        /** What neither ends the run nor leads elsewhere; a kind has been made when the program was loaded. */
        private void act(Step step) {
            switch (step.act) {
                case DELETE:
                    words.free(step.kind, found(step.kind, step.where));
                    break;
                case SET:
                    set(step);
                    break;
                case LET:
                    variables[step.variable] = value(step.value);
                    break;
                case PRINT:
                    latest[outputs % KEPT] = value(step.value);
                    outputs++;
                    break;
                case EACH:
                    cursors.begin(step.cursor, found(step.kind, step.where), step.field);
                    break;
                case CHANGE:
                    change(step, value(step.value));
                    break;
                case REMOVE:
                    remove(step);
                    break;
                default:
            }
        }

        /** Whether a word was free. */
        private boolean insert(Step step) {
            int[] given = changes[0];
            for (int p = step.puts; p < step.putsEnd; p++) {
                given[p - step.puts] = value(program.putValues[p]);
            }
            int w = words.add(step.kind);
            if (w != NONE) {
                put(step, w, given);
            }
            return w != NONE;
        }

        private void set(Step step) {
            long those = found(step.kind, step.where);
            for (int w = 0; w < WORDS; w++) {
                for (int p = step.puts; p < step.putsEnd && (those >>> w & 1) != 0; p++) {
                    changes[w][p - step.puts] = within(program.putValues[p], w);
                }
            }
            for (int w = 0; w < WORDS; w++) {
                if ((those >>> w & 1) != 0) {
                    put(step, w, changes[w]);
                }
            }
        }

        private void put(Step step, int w, int[] given) {
            for (int p = step.puts; p < step.putsEnd; p++) {
                int field = program.putFields[p];
                words.values[w][field] = given[p - step.puts] & names.masks[step.kind][field];
            }
        }

        private void change(Step step, int value) {
            int w = cursors.at(step.cursor);
            if (w != NONE) {
                words.values[w][step.field] = value & names.masks[step.kind][step.field];
            }
        }

        private void remove(Step step) {
            int w = cursors.at(step.cursor);
            if (w != NONE) {
                words.free(step.kind, 1L << w);
            }
        }

        private long found(int kind, int where) {
            long all = words.members[kind];
            if (where == NONE) {
                return all;
            }
            long those = 0;
            for (int w = 0; w < WORDS; w++) {
                if ((all >>> w & 1) != 0 && within(where, w) != 0) {
                    those |= 1L << w;
                }
            }
            return those;
        }

        /** The aggregates first, since their conditions need the stack for themselves. */
        private int value(int start) {
            for (int p = start; p < program.partCount && program.parts[p].act != END; p++) {
                Part part = program.parts[p];
                if (part.act >= COUNT && part.act <= GREATEST) {
                    part.number = aggregate(part);
                    p = Math.max(p, part.end - 1);
                }
            }
            return within(start, NONE);
        }

        private int aggregate(Part part) {
            long those = found(part.kind, part.where);
            if (part.act == COUNT) {
                return Long.bitCount(those);
            }
            int result = 0;
            boolean first = true;
            for (int w = 0; w < WORDS; w++) {
                if ((those >>> w & 1) == 0) {
                    continue;
                }
                int value = words.values[w][part.field];
                if (part.act == SUM) {
                    result += value;
                } else if (first || (part.act == LEAST ? value < result : value > result)) {
                    result = value;
                }
                first = false;
            }
            return result;
        }

        /** The value of an expression whose aggregates are known, with the fields of the record in this word. */
        private int within(int start, int word) {
            int top = NONE;
            for (int p = start; p < program.partCount && program.parts[p].act != END; p++) {
                Part part = program.parts[p];
                switch (part.act) {
                    case NUMBER:
                        stack[++top] = part.number;
                        break;
                    case VARIABLE:
                        stack[++top] = variables[part.number];
                        break;
                    case FIELD:
                        stack[++top] = words.values[word][part.field];
                        break;
                    case CURSOR:
                        int w = cursors.at(part.cursor);
                        stack[++top] = w == NONE ? 0 : words.values[w][part.field];
                        break;
                    case COUNT:
                    case SUM:
                    case LEAST:
                    case GREATEST:
                        stack[++top] = part.number;
                        p = Math.max(p, part.end - 1);
                        break;
                    case NOT:
                        stack[top] = stack[top] == 0 ? 1 : 0;
                        break;
                    case NEGATE:
                        stack[top] = -stack[top];
                        break;
                    default:
                        top--;
                        stack[top] = joined(part.act, stack[top], stack[top + 1]);
                }
            }
            return stack[0];
        }

        private static int joined(int act, int x, int y) {
            switch (act) {
                case OR:
                    return x != 0 || y != 0 ? 1 : 0;
                case AND:
                    return x != 0 && y != 0 ? 1 : 0;
                case EQUAL:
                    return x == y ? 1 : 0;
                case UNEQUAL:
                    return x != y ? 1 : 0;
                case LESS:
                    return x < y ? 1 : 0;
                case AT_MOST:
                    return x <= y ? 1 : 0;
                case GREATER:
                    return x > y ? 1 : 0;
                case AT_LEAST:
                    return x >= y ? 1 : 0;
                case PLUS:
                    return x + y;
                case MINUS:
                    return x - y;
                case TIMES:
                    return x * y;
                case OVER:
                    return y == 0 ? 0 : x / y;
                default:
                    return y == 0 ? 0 : x % y;
            }
        }
    }
}
