import java.util.ArrayList;
import java.util.LinkedHashMap;
import java.util.List;
import java.util.Map;

/** Makes texts of programs, most of them right and some spoilt, from a row of numbers that is always the same. */
final class Programs {
    private static final String[] KINDS = {"dog", "cat", "a", "b", "owl", "f", "kindest", "zzzzzzzz", "age"};
    private static final String[] FIELDS = {"f", "g", "age", "a", "size", "abcdefgh"};
    private static final String[] VARIABLES = {"v", "x", "y", "size", "g", "total", "n", "abcdefgh"};
    private static final String[] NUMBERS = {"0", "1", "2", "3", "5", "7", "31", "100", "2147483647", "00012", "65536"};
    private static final String[] JOINTS =
            {"+", "-", "*", "/", "%", "and", "or", "+", "-", "*", "and", "or", "and not", "or not"};
    private static final String[] COMPARISONS = {"=", "!=", "<", "<=", ">", ">="};
    private static final String[] BITS = {"1", "2", "3", "5", "8", "16", "31", "32", "4", "32"};
    private static final String[] ODD = {"kind", "insert", "delete", "where", "set", "let", "print", "each", "by", "if",
        "else", "while", "remove", "and", "or", "not", "count", "sum", "least", "greatest", "=", "!=", "<", "<=", ">",
        ">=", "+", "-", "*", "/", "%", "(", ")", "{", "}", ",", ";", ":", ".", "!", "A", "\t", "\u00ff", "0", "33",
        "2147483648", "ninelette", "dog", "cat", "f", "g", "age", "v", "_", "((((((((((", "))))", "not not", "- -"};

    private final Map<String, List<String>> known = new LinkedHashMap<>();
    private final Map<String, List<String>> kept = new LinkedHashMap<>();
    private final List<String> open = new ArrayList<>();
    private final List<String> tokens = new ArrayList<>();
    private long state;

    Programs(long seed) {
        state = seed * 0x9E3779B97F4A7C15L + 1;
        for (int k = 0; k < 4; k++) {
            below(2);
        }
    }

    int below(int bound) {
        state = state * 6364136223846793005L + 1442695040888963407L;
        return (int) ((state >>> 33) % bound);
    }

    private boolean once(int in) {
        return below(in) == 0;
    }

    private String of(String[] row) {
        return row[below(row.length)];
    }

    private String of(List<String> row) {
        return row.isEmpty() ? "none" : row.get(below(row.size()));
    }

    /** The kinds of the latest text are known from now on if it was loaded. */
    void wasLoaded(boolean right) {
        if (right) {
            kept.putAll(known);
        }
        known.clear();
        known.putAll(kept);
    }

    String next() {
        tokens.clear();
        open.clear();
        int statements = 1 + below(7);
        if (known.isEmpty() || once(4)) {
            kind();
        }
        for (int k = 0; k < statements; k++) {
            statement(0);
        }
        if (once(3)) {
            spoil();
        }
        String text = text();
        return text.length() > 500 ? text.substring(0, once(2) ? 500 : text.indexOf(';') + 1) : text;
    }

    private void add(String... more) {
        tokens.addAll(List.of(more));
    }

    private String text() {
        StringBuilder text = new StringBuilder(once(5) ? " " : "");
        String before = ";";
        for (String token : tokens) {
            boolean touching = isWordy(before.charAt(before.length() - 1)) && isWordy(token.charAt(0));
            if (touching && !once(300) || once(8)) {
                text.append(once(5) ? "\n" : " ");
            }
            text.append(token);
            before = token;
        }
        return text.append(once(4) ? " " : "").toString();
    }

    private static boolean isWordy(char c) {
        return c >= 'a' && c <= 'z' || c >= '0' && c <= '9';
    }

    private void spoil() {
        for (int k = 1 + below(2); k > 0 && !tokens.isEmpty(); k--) {
            int where = below(tokens.size());
            switch (below(5)) {
                case 0:
                    tokens.remove(where);
                    break;
                case 1:
                    tokens.set(where, of(ODD));
                    break;
                case 2:
                    tokens.add(where, of(ODD));
                    break;
                case 3:
                    tokens.set(where, tokens.get(below(tokens.size())));
                    break;
                default:
                    while (tokens.size() > where) {
                        tokens.remove(tokens.size() - 1);
                    }
            }
        }
    }

    private void statement(int depth) {
        String kind = of(new ArrayList<>(known.keySet()));
        switch (below(depth < 4 ? 18 : 11)) {
            case 0:
            case 1:
            case 2:
                add("insert", kind);
                puts(kind, null);
                add(";");
                break;
            case 3:
                if (once(4)) {
                    add("delete", kind);
                    where(kind);
                } else {
                    add("print");
                    expression(null, 3);
                }
                add(";");
                break;
            case 4:
            case 5:
                add("set", kind);
                where(kind);
                add(":");
                puts(kind, kind);
                add(";");
                break;
            case 6:
                add("let", of(VARIABLES), "=");
                expression(null, 2);
                add(";");
                break;
            case 7:
            case 8:
                add("print");
                expression(null, 3);
                add(";");
                break;
            case 9:
            case 10:
                cursorStatement(kind);
                break;
            case 11:
                if (once(4)) {
                    kind();
                } else {
                    add("print", "count", "(", kind, ")", ";");
                }
                break;
            case 12:
            case 13:
                add("if");
                expression(null, 2);
                block(depth, null);
                if (once(2)) {
                    add("else");
                    block(depth, null);
                }
                break;
            case 14:
                add("while", "w", "<", of(NUMBERS), "{", "let", "w", "=", "w", "+", "1", ";");
                statement(depth + 1);
                add("}");
                break;
            default:
                add("each", kind, "by", of(fields(kind)));
                where(kind);
                block(depth, kind);
        }
    }

    private void cursorStatement(String other) {
        String kind = open.isEmpty() ? other : of(open);
        if (open.isEmpty() && !once(20)) {
            add("print", "greatest", "(", kind, ".", of(fields(kind)), ")", ";");
        } else if (once(2)) {
            add("remove", kind, ";");
        } else {
            add(kind, ".", of(fields(kind)), "=");
            expression(null, 2);
            add(";");
        }
    }

    private void block(int depth, String kind) {
        add("{");
        if (kind != null) {
            open.add(kind);
        }
        for (int k = below(4); k > 0; k--) {
            statement(depth + 1);
        }
        if (kind != null) {
            open.remove(open.size() - 1);
        }
        add("}");
    }

    private void kind() {
        String name = of(KINDS);
        for (int k = 0; k < 20 && known.containsKey(name) && !once(20); k++) {
            name = of(KINDS);
        }
        List<String> fields = new ArrayList<>();
        int bits = 84;
        add("kind", name);
        int count = 1 + below(once(40) ? 7 : once(4) ? 6 : 3);
        for (int k = 0; k < count; k++) {
            String field = FIELDS[(k * 5 + name.length()) % FIELDS.length];
            int width = Integer.parseInt(of(BITS));
            width = width > bits && !once(10) ? 1 : width;
            bits -= width;
            add(k == 0 ? "" : ",", field, ":", String.valueOf(width));
            fields.add(field);
        }
        tokens.removeIf(String::isEmpty);
        add(";");
        known.putIfAbsent(name, fields);
    }

    private List<String> fields(String kind) {
        return once(60) ? List.of(FIELDS) : known.getOrDefault(kind, List.of("f"));
    }

    private void where(String kind) {
        if (!once(3)) {
            add("where");
            expression(kind, 2);
        }
    }

    private void puts(String kind, String record) {
        List<String> left = new ArrayList<>(fields(kind));
        for (int k = 1 + below(2); k > 0 && !left.isEmpty(); k--) {
            add(left.remove(below(left.size())), "=");
            expression(record, 2);
            if (k > 1 && !left.isEmpty()) {
                add(",");
            } else {
                return;
            }
        }
    }

    private void expression(String record, int depth) {
        if (depth == 0 || once(3)) {
            operand(record, depth);
            return;
        }
        switch (below(6)) {
            case 0:
                add("(");
                expression(record, depth - 1);
                add(")");
                break;
            case 1:
                add("-");
                operand(record, depth - 1);
                break;
            case 2:
                if (record == null) {
                    aggregate();
                } else {
                    add("not", "(");
                    expression(record, depth - 1);
                    add(")");
                }
                break;
            default:
                operand(record, depth - 1);
                boolean comparing = false;
                for (int k = below(3) + 1; k > 0; k--) {
                    boolean compare = (!comparing || once(30)) && once(3);
                    String joint = of(compare ? COMPARISONS : JOINTS);
                    comparing = compare || comparing && !joint.matches("and.*|or.*");
                    add(joint.split(" "));
                    operand(record, depth - 1);
                }
        }
    }

    private void operand(String record, int depth) {
        if (once(12)) {
            add(once(4) ? new String[] {"-", "-"} : new String[] {"-"});
        }
        switch (below(record == null ? 7 : 9)) {
            case 0:
            case 1:
                add(of(NUMBERS));
                break;
            case 2:
                add(of(VARIABLES));
                break;
            case 3:
            case 4:
                if (open.isEmpty()) {
                    add(of(NUMBERS));
                } else {
                    String kind = of(open);
                    add(kind, ".", of(fields(kind)));
                }
                break;
            case 5:
                if (record == null || once(60)) {
                    aggregate();
                } else {
                    add(of(fields(record)));
                }
                break;
            case 6:
                if (depth > 0) {
                    add("(");
                    expression(record, depth - 1);
                    add(")");
                } else {
                    add(of(VARIABLES));
                }
                break;
            default:
                add(of(fields(record)));
        }
    }

    private void aggregate() {
        String kind = of(new ArrayList<>(known.keySet()));
        if (once(3)) {
            add("count", "(", kind);
        } else {
            add(of(new String[] {"sum", "least", "greatest"}), "(", kind, ".", of(fields(kind)));
        }
        where(kind);
        add(")");
    }
}
