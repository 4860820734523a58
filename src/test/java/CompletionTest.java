import java.util.LinkedHashSet;
import java.util.List;
import java.util.Set;
import java.util.regex.Matcher;
import java.util.regex.Pattern;

/** Promise 4 the other way round: what stands before the place of a wrong program can still become a right one. */
public final class CompletionTest {
    private static final int TEXTS = 3000;
    private static final int MOST = 60;
    // So that the tape has room for what completes it.
    private static final int LENGTH = 350;
    private static final int RIGHT = -1;
    private static final List<String> CLOSING = List.of(";", "}", ")", "1", "q", ":", "=", "by", "{", ".", "(");
    private static final Pattern NAME = Pattern.compile("[a-z]{1,8}");
    // What can't become right, but is told at a later token, as the document says: names of kinds and fields where they
    // stand themselves, what is too deep at its bracket, and too many bits at their number.
    private static final Pattern LATER = Pattern.compile(
            "(?s).*(\\b(insert|delete|set|each|remove|count|sum|least|greatest)\\s*\\(?|,|\\bkind\\b[^;]*)\\s*");

    public static void main(String[] arguments) {
        Checks checks = new Checks("CompletionTest");
        for (int seed = 1; seed <= TEXTS; seed++) {
            Programs programs = new Programs(seed);
            String made = programs.next();
            String text = made.substring(0, Math.min(made.length(), LENGTH));
            int wrong = place(text);
            String before = text.substring(0, wrong == RIGHT ? programs.below(text.length() + 1) : wrong);
            // A text that was cut within a token may be wrong there.
            int cut = place(before);
            before = cut == RIGHT ? before : before.substring(0, cut);
            checks.holds(before + " can be completed", canBeCompleted(before) || LATER.matcher(before).matches());
        }
        checks.end();
    }

    /** RIGHT also for too many tokens, which are right up to there. */
    private static int place(String text) {
        ArrayRecords array = Checks.feed(new ArrayRecords(), text);
        Checks.answer(array::load);
        return array.place();
    }

    private static boolean canBeCompleted(String text) {
        Set<String> tokens = new LinkedHashSet<>(CLOSING);
        Matcher names = NAME.matcher(text);
        while (names.find()) {
            tokens.add(names.group());
        }
        String longer = text;
        for (int k = 0; k < MOST && longer != null; k++) {
            if (place(longer) == RIGHT) {
                return true;
            }
            longer = withOneMore(longer, tokens);
        }
        return false;
    }

    /** null when no token can stand there. */
    private static String withOneMore(String text, Set<String> tokens) {
        for (String token : tokens) {
            String longer = text + " " + token;
            int place = place(longer);
            if (place == RIGHT || place == longer.length()) {
                return longer;
            }
        }
        return null;
    }
}
