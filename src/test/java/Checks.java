/** Counts the answers that are not due, and ends a test's main method. */
final class Checks {
    interface Call {
        int answer();
    }

    private final String test;
    private int made;
    private int failures;

    Checks(String test) {
        this.test = test;
    }

    void is(String what, int due, Call call) {
        compare(what, String.valueOf(due), answer(call));
    }

    void fails(String what, Class<? extends RuntimeException> due, Call call) {
        compare(what, due.getName(), answer(call));
    }

    void holds(String what, boolean so) {
        compare(what, "true", String.valueOf(so));
    }

    void compare(String what, String due, String got) {
        made++;
        if (!due.equals(got)) {
            failures++;
            System.out.println(test + ": " + what + ": due " + due + ", got " + got);
        }
    }

    void end() {
        System.out.println(test + ": " + made + " checks, " + failures + " failed");
        System.exit(failures == 0 ? 0 : 1);
    }

    static String answer(Call call) {
        try {
            return String.valueOf(call.answer());
        } catch (RuntimeException thrown) {
            return thrown.getClass().getName();
        }
    }

    static ArrayRecords feed(ArrayRecords array, String text) {
        for (char c : text.toCharArray()) {
            array.feed(c, 1);
        }
        return array;
    }

    static ArrayRecords loaded(String text) {
        ArrayRecords array = new ArrayRecords();
        feed(array, text).load();
        return array;
    }

    /** Loads and runs it with all fuel. */
    static ArrayRecords done(ArrayRecords array, String text) {
        feed(array, text).load();
        array.run(20000);
        return array;
    }

    static ArrayRecords done(String text) {
        return done(new ArrayRecords(), text);
    }

    /** The numbers printed, with blanks between. */
    static String prints(ArrayRecords array) {
        StringBuilder text = new StringBuilder();
        for (int k = Math.max(0, array.printed() - 64); k < array.printed(); k++) {
            text.append(k == Math.max(0, array.printed() - 64) ? "" : " ").append(array.print(k));
        }
        return text.toString();
    }

    static String times(int n, String text) {
        return text.repeat(n);
    }
}
