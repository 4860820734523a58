import java.util.ArrayList;
import java.util.Comparator;
import java.util.HashMap;
import java.util.LinkedHashMap;
import java.util.List;
import java.util.Map;
import java.util.Set;
import java.util.function.IntBinaryOperator;
import java.util.regex.Matcher;
import java.util.regex.Pattern;

/**
 * A second reading of the document, made as unlike the class as may be: the text is read by recursion into a tree
 * of functions, and records are objects whose identity tells whether they are still there.
 */
final class Model {
    private static final Set<String> WORDS = Set.of("kind", "insert", "delete", "where", "set", "let", "print", "each",
            "by", "if", "else", "while", "remove", "and", "or", "not", "count", "sum", "least", "greatest");
    private static final Pattern TOKEN =
            Pattern.compile("[a-z]+|[0-9]+|!=|<=|>=|[=<>+*/%(){},;:.-]|[\\x00-\\xff]", Pattern.DOTALL);

    private static final class Wrong extends RuntimeException {
        private static final long serialVersionUID = 1;
        private final int place;

        Wrong(int place) {
            super(null, null, false, false);
            this.place = place;
        }
    }

    private static final class Over extends RuntimeException {
        private static final long serialVersionUID = 1;
        private final int outcome;

        Over(int outcome) {
            super(null, null, false, false);
            this.outcome = outcome;
        }
    }

    private static final class Kind {
        private final int number;
        private final LinkedHashMap<String, Integer> bits = new LinkedHashMap<>();

        Kind(int number) {
            this.number = number;
        }
    }

    private static final class Row {
        private final Kind kind;
        private final int word;
        private final Map<String, Integer> values = new HashMap<>();

        Row(Kind kind, int word) {
            this.kind = kind;
            this.word = word;
        }

        void put(String field, int value) {
            values.put(field, (int) Math.floorMod((long) value, 1L << kind.bits.get(field)));
        }

        int get(String field) {
            return values.getOrDefault(field, 0);
        }
    }

    /** An each that is open where the text is read; its row is the cursor when it is run. */
    private static final class Loop {
        private final Kind kind;
        private Row row;

        Loop(Kind kind) {
            this.kind = kind;
        }
    }

    private interface Value {
        int of(Row row);
    }

    private interface Act {
        void go();
    }

    private static final class Token {
        private final String text;
        private final int place;
        private final boolean wrong;

        Token(String text, int place, boolean wrong) {
            this.text = text;
            this.place = place;
            this.wrong = wrong;
        }
    }

    private final StringBuilder tape = new StringBuilder();
    private final Row[] array = new Row[64];
    private final List<Integer> prints = new ArrayList<>();
    private Map<String, Kind> kinds = new LinkedHashMap<>();
    private Map<String, Integer> variables = new HashMap<>();
    private Act program;
    private int place = -1;
    private int fuel;
    private int steps;

    private List<Token> tokens;
    private int at;
    private int depth;
    private List<Loop> loops;

    int feed(long bytes, int n) {
        if (n < 1 || n > 8) {
            throw new IllegalArgumentException();
        }
        if (tape.length() + n > 500) {
            throw new IllegalStateException();
        }
        for (int k = n; k > 0; k--) {
            tape.append((char) ((bytes >> (8 * k - 8)) & 0xff));
        }
        return tape.length();
    }

    int load() {
        Map<String, Kind> oldKinds = new LinkedHashMap<>(kinds);
        Map<String, Integer> oldVariables = new HashMap<>(variables);
        String text = tape.toString();
        tape.setLength(0);
        program = null;
        try {
            program = read(text);
            place = -1;
            return tokens.size() - 1;
        } catch (Wrong wrong) {
            place = wrong.place;
            kinds = oldKinds;
            variables = oldVariables;
        }
        throw new IllegalArgumentException();
    }

    int place() {
        return place;
    }

    int run(int given) {
        if (given < 1 || given > 20000) {
            throw new IllegalArgumentException();
        }
        if (program == null) {
            throw new IllegalStateException();
        }
        fuel = given;
        steps = 0;
        try {
            program.go();
        } catch (Over over) {
            return over.outcome;
        }
        return 0;
    }

    int steps() {
        return steps;
    }

    int printed() {
        return prints.size();
    }

    int print(int k) {
        if (k < 0 || k >= prints.size() || prints.size() - k > 64) {
            throw new IndexOutOfBoundsException();
        }
        return prints.get(k);
    }

    int word(int w, int what) {
        if (w < 0 || w > 63 || what < 0 || what > 6) {
            throw new IllegalArgumentException();
        }
        Row row = array[w];
        if (row == null) {
            return 0;
        }
        List<String> fields = new ArrayList<>(row.kind.bits.keySet());
        return what == 0 ? row.kind.number : what > fields.size() ? 0 : row.get(fields.get(what - 1));
    }

    int records() {
        int n = 0;
        for (Row row : array) {
            n += row == null ? 0 : 1;
        }
        return n;
    }

    // Reading.

    private Act read(String text) {
        tokens = cut(text);
        at = 0;
        depth = 0;
        loops = new ArrayList<>();
        Act all = statements();
        if (!peek().equals("")) {
            throw wrong();
        }
        return all;
    }

    /** The last one is empty: the end, or what is too many. */
    private static List<Token> cut(String text) {
        List<Token> list = new ArrayList<>();
        Matcher matcher = TOKEN.matcher(text);
        while (matcher.find()) {
            String token = matcher.group();
            if (token.equals(" ") || token.equals("\n")) {
                continue;
            }
            if (list.size() == 150) {
                list.add(new Token("", -1, true));
                return list;
            }
            list.add(new Token(token, matcher.start(), !isRight(token)));
        }
        list.add(new Token("", text.length(), false));
        return list;
    }

    private static boolean isRight(String token) {
        if (token.matches("[a-z]+")) {
            return token.length() <= 8;
        }
        if (token.matches("[0-9]+")) {
            return new java.math.BigInteger(token).bitLength() <= 31;
        }
        return token.length() == 2 || "=<>+-*/%(){},;:.".contains(token);
    }

    private Wrong wrong() {
        return new Wrong(tokens.get(at).place);
    }

    private String peek() {
        if (tokens.get(at).wrong) {
            throw wrong();
        }
        return tokens.get(at).text;
    }

    private boolean skip(String text) {
        if (!peek().equals(text)) {
            return false;
        }
        at++;
        return true;
    }

    private void need(String text) {
        if (!skip(text)) {
            throw wrong();
        }
    }

    private String name() {
        String text = peek();
        if (!text.matches("[a-z]+") || WORDS.contains(text)) {
            throw wrong();
        }
        return text;
    }

    private Kind kind() {
        Kind kind = kinds.get(name());
        if (kind == null) {
            throw wrong();
        }
        at++;
        return kind;
    }

    private String field(Kind kind) {
        String field = name();
        if (!kind.bits.containsKey(field)) {
            throw wrong();
        }
        at++;
        return field;
    }

    private Loop loop() {
        Kind kind = kinds.get(name());
        for (int k = loops.size() - 1; k >= 0; k--) {
            if (loops.get(k).kind == kind) {
                at++;
                return loops.get(k);
            }
        }
        throw wrong();
    }

    private String variable() {
        String name = name();
        if (kinds.containsKey(name) || !variables.containsKey(name) && variables.size() == 20) {
            throw wrong();
        }
        variables.putIfAbsent(name, 0);
        at++;
        return name;
    }

    private void deeper(String bracket) {
        if (!peek().equals(bracket) || depth == 10) {
            throw wrong();
        }
        depth++;
        at++;
    }

    private void back(String bracket) {
        need(bracket);
        depth--;
    }

    private Act block() {
        deeper("{");
        Act acts = statements();
        back("}");
        return acts;
    }

    private Act statements() {
        List<Act> acts = new ArrayList<>();
        while (!peek().equals("") && !peek().equals("}")) {
            acts.add(statement());
        }
        return () -> {
            for (Act act : acts) {
                act.go();
            }
        };
    }

    private Act statement() {
        switch (peek()) {
            case "kind":
                return kindStatement();
            case "insert":
                return insertStatement();
            case "delete":
                return deleteStatement();
            case "set":
                return setStatement();
            case "let":
                return letStatement();
            case "print":
                return printStatement();
            case "each":
                return eachStatement();
            case "if":
                return ifStatement();
            case "while":
                return whileStatement();
            case "remove":
                return removeStatement();
            default:
                return changeStatement();
        }
    }

    private Act kindStatement() {
        at++;
        String name = name();
        if (kinds.containsKey(name) || variables.containsKey(name) || kinds.size() == 7) {
            throw wrong();
        }
        at++;
        Kind kind = new Kind(kinds.size() + 1);
        int sum = 0;
        do {
            if (kind.bits.containsKey(name())) {
                throw wrong();
            }
            String field = name();
            at++;
            need(":");
            if (!peek().matches("[0-9]+")) {
                throw wrong();
            }
            int bits = Integer.parseInt(peek());
            if (bits == 0 || bits > 32 || sum + bits > 84) {
                throw wrong();
            }
            at++;
            sum += bits;
            kind.bits.put(field, bits);
        } while (kind.bits.size() < 6 && skip(","));
        need(";");
        kinds.put(name, kind);
        return this::pay;
    }

    private Act insertStatement() {
        at++;
        Kind kind = kind();
        Map<String, Value> puts = puts(kind, null);
        need(";");
        return () -> {
            pay();
            Map<String, Integer> values = new HashMap<>();
            puts.forEach((field, value) -> values.put(field, value.of(null)));
            int w = 0;
            while (w < 64 && array[w] != null) {
                w++;
            }
            if (w == 64) {
                throw new Over(2);
            }
            Row row = new Row(kind, w);
            values.forEach(row::put);
            array[w] = row;
        };
    }

    private Map<String, Value> puts(Kind kind, Kind record) {
        Map<String, Value> puts = new LinkedHashMap<>();
        do {
            if (puts.containsKey(name())) {
                throw wrong();
            }
            String field = field(kind);
            need("=");
            puts.put(field, expression(record));
        } while (skip(","));
        return puts;
    }

    private Value where(Kind kind) {
        return skip("where") ? expression(kind) : row -> 1;
    }

    private Act deleteStatement() {
        at++;
        Kind kind = kind();
        Value where = where(kind);
        need(";");
        return () -> {
            pay();
            for (Row row : rows(kind, where)) {
                array[row.word] = null;
            }
        };
    }

    private Act setStatement() {
        at++;
        Kind kind = kind();
        Value where = where(kind);
        need(":");
        Map<String, Value> puts = puts(kind, kind);
        need(";");
        return () -> {
            pay();
            List<Act> later = new ArrayList<>();
            for (Row row : rows(kind, where)) {
                puts.forEach((field, value) -> {
                    int number = value.of(row);
                    later.add(() -> row.put(field, number));
                });
            }
            later.forEach(Act::go);
        };
    }

    private Act letStatement() {
        at++;
        String variable = variable();
        need("=");
        Value value = expression(null);
        need(";");
        return () -> {
            pay();
            variables.put(variable, value.of(null));
        };
    }

    private Act printStatement() {
        at++;
        Value value = expression(null);
        need(";");
        return () -> {
            pay();
            prints.add(value.of(null));
        };
    }

    private Act eachStatement() {
        at++;
        Kind kind = kind();
        need("by");
        String field = field(kind);
        Value where = where(kind);
        Loop loop = new Loop(kind);
        loops.add(loop);
        Act body = block();
        loops.remove(loop);
        return () -> {
            pay();
            List<Row> rows = rows(kind, where);
            rows.sort(Comparator.comparingInt((Row row) -> row.get(field)).thenComparingInt(row -> row.word));
            for (Row row : rows) {
                if (array[row.word] == row) {
                    pay();
                    loop.row = row;
                    body.go();
                }
            }
        };
    }

    private Act ifStatement() {
        at++;
        Value value = expression(null);
        Act then = block();
        Act otherwise = skip("else") ? block() : () -> { };
        return () -> {
            pay();
            (value.of(null) != 0 ? then : otherwise).go();
        };
    }

    private Act whileStatement() {
        at++;
        Value value = expression(null);
        Act body = block();
        return () -> {
            pay();
            while (value.of(null) != 0) {
                body.go();
                pay();
            }
        };
    }

    private Act removeStatement() {
        at++;
        Loop loop = loop();
        need(";");
        return () -> {
            pay();
            if (isThere(loop.row)) {
                array[loop.row.word] = null;
            }
        };
    }

    private Act changeStatement() {
        Loop loop = loop();
        need(".");
        String field = field(loop.kind);
        need("=");
        Value value = expression(null);
        need(";");
        return () -> {
            pay();
            int number = value.of(null);
            if (isThere(loop.row)) {
                loop.row.put(field, number);
            }
        };
    }

    // Expressions, from the loosest to the tightest.

    private static int truth(boolean so) {
        return so ? 1 : 0;
    }

    private Value both(Value left, Value right, IntBinaryOperator operator) {
        return row -> operator.applyAsInt(left.of(row), right.of(row));
    }

    private Value expression(Kind record) {
        Value value = conjunction(record);
        while (skip("or")) {
            value = both(value, conjunction(record), (x, y) -> truth(x != 0 || y != 0));
        }
        return value;
    }

    private Value conjunction(Kind record) {
        Value value = negation(record);
        while (skip("and")) {
            value = both(value, negation(record), (x, y) -> truth(x != 0 && y != 0));
        }
        return value;
    }

    private Value negation(Kind record) {
        if (skip("not")) {
            Value value = negation(record);
            return row -> truth(value.of(row) == 0);
        }
        return comparison(record);
    }

    private Value comparison(Kind record) {
        Value left = sum(record);
        switch (peek()) {
            case "=":
                at++;
                return both(left, sum(record), (x, y) -> truth(x == y));
            case "!=":
                at++;
                return both(left, sum(record), (x, y) -> truth(x != y));
            case "<":
                at++;
                return both(left, sum(record), (x, y) -> truth(x < y));
            case "<=":
                at++;
                return both(left, sum(record), (x, y) -> truth(x <= y));
            case ">":
                at++;
                return both(left, sum(record), (x, y) -> truth(x > y));
            case ">=":
                at++;
                return both(left, sum(record), (x, y) -> truth(x >= y));
            default:
                return left;
        }
    }

    private Value sum(Kind record) {
        Value value = product(record);
        while (true) {
            if (skip("+")) {
                value = both(value, product(record), (x, y) -> x + y);
            } else if (skip("-")) {
                value = both(value, product(record), (x, y) -> x - y);
            } else {
                return value;
            }
        }
    }

    private Value product(Kind record) {
        Value value = signed(record);
        while (true) {
            if (skip("*")) {
                value = both(value, signed(record), (x, y) -> x * y);
            } else if (skip("/")) {
                value = both(value, signed(record), (x, y) -> y == 0 ? 0 : (int) ((long) x / y));
            } else if (skip("%")) {
                value = both(value, signed(record), (x, y) -> y == 0 ? 0 : (int) ((long) x % y));
            } else {
                return value;
            }
        }
    }

    private Value signed(Kind record) {
        if (skip("-")) {
            Value value = signed(record);
            return row -> 0 - value.of(row);
        }
        return primary(record);
    }

    private Value primary(Kind record) {
        String text = peek();
        if (text.matches("[0-9]+")) {
            at++;
            int number = Integer.parseInt(text);
            return row -> number;
        }
        if (text.equals("(")) {
            deeper("(");
            Value value = expression(record);
            back(")");
            return value;
        }
        if (Set.of("count", "sum", "least", "greatest").contains(text) && record == null) {
            return aggregate();
        }
        String name = name();
        if (record != null && record.bits.containsKey(name)) {
            at++;
            return row -> row.get(name);
        }
        if (kinds.containsKey(name)) {
            Loop loop = loop();
            need(".");
            String field = field(loop.kind);
            return row -> isThere(loop.row) ? loop.row.get(field) : 0;
        }
        String variable = variable();
        return row -> variables.get(variable);
    }

    private Value aggregate() {
        String word = peek();
        at++;
        deeper("(");
        Kind kind = kind();
        String field = null;
        if (!word.equals("count")) {
            need(".");
            field = field(kind);
        }
        Value where = where(kind);
        back(")");
        String of = field;
        return none -> {
            java.util.stream.IntStream all = rows(kind, where).stream().mapToInt(row -> of == null ? 1 : row.get(of));
            switch (word) {
                case "least":
                    return all.min().orElse(0);
                case "greatest":
                    return all.max().orElse(0);
                default:
                    return all.sum();
            }
        };
    }

    // Running.

    private void pay() {
        if (fuel == 0) {
            throw new Over(1);
        }
        fuel--;
        steps++;
    }

    private boolean isThere(Row row) {
        return row != null && array[row.word] == row;
    }

    private List<Row> rows(Kind kind, Value where) {
        List<Row> rows = new ArrayList<>();
        for (Row row : array) {
            if (row != null && row.kind == kind && where.of(row) != 0) {
                rows.add(row);
            }
        }
        return rows;
    }
}
