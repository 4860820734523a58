/** All promises together: made programs, the class against a second reading of the document. */
public final class ModelTest {
    private static final int OBJECTS = 2500;
    private static final int CALLS = 512;

    private interface Call {
        int answer();
    }

    private final StringBuilder told = new StringBuilder();
    private final ArrayRecords array = new ArrayRecords();
    private final Model model = new Model();
    private final Programs programs;
    private int calls;
    private int right;
    private int wrong;
    private int[] outcomes = new int[4];
    private boolean failed;

    private ModelTest(long seed) {
        programs = new Programs(seed);
    }

    public static void main(String[] arguments) {
        int failures = 0;
        int right = 0;
        int wrong = 0;
        int[] outcomes = new int[4];
        for (int seed = 1; seed <= OBJECTS && failures < 3; seed++) {
            ModelTest test = new ModelTest(seed);
            test.go();
            failures += test.failed ? 1 : 0;
            right += test.right;
            wrong += test.wrong;
            for (int k = 0; k < 4; k++) {
                outcomes[k] += test.outcomes[k];
            }
        }
        System.out.println("ModelTest: " + right + " programs right, " + wrong + " wrong; runs through " + outcomes[0]
                + ", spent " + outcomes[1] + ", full " + outcomes[2] + ", without program " + outcomes[3]);
        System.exit(failures == 0 ? 0 : 1);
    }

    private void go() {
        while (!failed && calls < CALLS) {
            String text = programs.next();
            feed(text);
            loadAndRun(text);
            look();
        }
    }

    private void feed(String text) {
        int at = 0;
        while (at < text.length() && calls < CALLS) {
            int n = Math.min(text.length() - at, 8);
            long bytes = programs.below(1000) - 500;
            for (int k = 0; k < n; k++) {
                bytes = bytes << 8 | text.charAt(at + k);
            }
            long fed = bytes;
            same("feed " + n, () -> array.feed(fed, n), () -> model.feed(fed, n));
            at += n;
        }
    }

    private void loadAndRun(String text) {
        int loaded = same("load " + text, array::load, model::load);
        programs.wasLoaded(loaded >= 0);
        if (loaded >= 0) {
            right++;
        } else {
            wrong++;
        }
        same("place", array::place, model::place);
        int runs = 1 + programs.below(3);
        for (int k = 0; k < runs; k++) {
            int most = programs.below(3) == 0 ? 20 : programs.below(20) == 0 ? 20000 : 500;
            int fuel = 1 + programs.below(most);
            int outcome = same("run " + fuel, () -> array.run(fuel), () -> model.run(fuel));
            outcomes[outcome < 0 ? 3 : outcome]++;
            same("steps", array::steps, model::steps);
            same("printed", array::printed, model::printed);
        }
    }

    private void look() {
        same("records", array::records, model::records);
        for (int k = 0; k < 12; k++) {
            int printed = model.printed() - programs.below(programs.below(2) == 0 ? 8 : 70);
            same("print " + printed, () -> array.print(printed), () -> model.print(printed));
            int w = programs.below(programs.below(3) == 0 ? 65 : 12);
            int what = programs.below(8);
            same("word " + w + " " + what, () -> array.word(w, what), () -> model.word(w, what));
        }
        // Beside the calls that count: every word, so that no change passes unseen.
        for (int w = 0; w < 64; w++) {
            for (int what = 0; what <= 6; what++) {
                if (array.word(w, what) != model.word(w, what)) {
                    fail("word " + w + " " + what, model.word(w, what), array.word(w, what));
                }
            }
        }
    }

    /** What is answered; -1 with an exception. */
    private int same(String call, Call ours, Call due) {
        calls++;
        String expected = answer(due);
        String got = answer(ours);
        told.append(call).append(" -> ").append(expected).append('\n');
        if (!expected.equals(got)) {
            fail(call, expected, got);
        }
        return expected.startsWith("throws") ? -1 : Integer.parseInt(expected);
    }

    private static String answer(Call call) {
        try {
            return String.valueOf(call.answer());
        } catch (RuntimeException thrown) {
            return "throws." + thrown.getClass().getSimpleName();
        }
    }

    private void fail(String call, Object due, Object got) {
        if (!failed) {
            System.out.println(told + call + ": due " + due + ", got " + got);
        }
        failed = true;
    }
}
