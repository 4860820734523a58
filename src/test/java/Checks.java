/** Counts the answers that are not due, and ends a test's main method. */
final class Checks {
    interface Call {
        int answer();
    }

    private final String test;
    private int made;
    private int failures;

    Checks(String test) {
        this.test = test;
    }

    void is(String what, int due, Call call) {
        compare(what, String.valueOf(due), answer(call));
    }

    void fails(String what, Class<? extends RuntimeException> due, Call call) {
        compare(what, due.getName(), answer(call));
    }

    void holds(String what, boolean so) {
        compare(what, "true", String.valueOf(so));
    }

    void compare(String what, String due, String got) {
        made++;
        if (!due.equals(got)) {
            failures++;
            System.out.println(test + ": " + what + ": due " + due + ", got " + got);
        }
    }

    void end() {
        System.out.println(test + ": " + made + " checks, " + failures + " failed");
        System.exit(failures == 0 ? 0 : 1);
    }

    /** In such a text the sign ^, which is not part of it, stands before what is wrong. */
    void wrong(ArrayRecords array, String marked) {
        int due = marked.indexOf('^');
        feed(array, marked.substring(0, due) + marked.substring(due + 1));
        fails("load " + marked, IllegalArgumentException.class, array::load);
        is("place " + marked, due, array::place);
    }

    void wrong(String marked) {
        wrong(new ArrayRecords(), marked);
    }

    void right(ArrayRecords array, String text, int tokens) {
        is("load " + text, tokens, () -> feed(array, text).load());
        is("place " + text, -1, array::place);
    }

    void right(String text, int tokens) {
        right(new ArrayRecords(), text, tokens);
    }

    /** The text, run in a new object with all fuel, prints these numbers. */
    void gives(String text, String numbers) {
        ArrayRecords array = new ArrayRecords();
        try {
            done(array, text);
            compare(text, numbers, prints(array));
        } catch (RuntimeException thrown) {
            compare(text + " at " + array.place(), numbers, thrown.toString());
        }
    }

    static String answer(Call call) {
        try {
            return String.valueOf(call.answer());
        } catch (RuntimeException thrown) {
            return thrown.getClass().getName();
        }
    }

    static ArrayRecords feed(ArrayRecords array, String text) {
        for (char c : text.toCharArray()) {
            array.feed(c, 1);
        }
        return array;
    }

    static ArrayRecords loaded(String text) {
        ArrayRecords array = new ArrayRecords();
        feed(array, text).load();
        return array;
    }

    /** Loads and runs it with all fuel. */
    static ArrayRecords done(ArrayRecords array, String text) {
        feed(array, text).load();
        array.run(20000);
        return array;
    }

    static ArrayRecords done(String text) {
        return done(new ArrayRecords(), text);
    }

    /** The numbers printed, with blanks between. */
    static String prints(ArrayRecords array) {
        StringBuilder text = new StringBuilder();
        for (int k = Math.max(0, array.printed() - 64); k < array.printed(); k++) {
            text.append(k == Math.max(0, array.printed() - 64) ? "" : " ").append(array.print(k));
        }
        return text.toString();
    }

    /** All that the calls that change nothing answer. */
    static String state(ArrayRecords array) {
        StringBuilder text = new StringBuilder();
        text.append("place ").append(array.place()).append(", steps ").append(array.steps()).append(", printed ");
        text.append(array.printed()).append(": ").append(prints(array)).append(", records ").append(array.records());
        for (int w = 0; w < 64; w++) {
            text.append(" |");
            for (int what = 0; what <= 6; what++) {
                text.append(' ').append(array.word(w, what));
            }
        }
        return text.toString();
    }

    static String times(int n, String text) {
        return text.repeat(n);
    }
}
