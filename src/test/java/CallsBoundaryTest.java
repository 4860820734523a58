/** The calls that are refused: what they throw, what goes before what, and that they change nothing. */
public final class CallsBoundaryTest {
    private static final String TEXT = "kind dog age:5, size:32; insert dog age=3, size=-4; insert dog age=5; let v = 7; print v; "
            + "print -1;";

    public static void main(String[] arguments) {
        Checks checks = new Checks("CallsBoundaryTest");
        feedRefuses(checks);
        feedTakesTheLowestBytesTheHighestFirst(checks);
        loadRefuses(checks);
        loadUsesTheTapeUp(checks);
        runRefuses(checks);
        printRefuses(checks);
        wordRefuses(checks);
        wordOfAFreeWordOrWithoutSuchAField(checks);
        looksChangeNothing(checks);
        placeOfTheLatestLoad(checks);
        checks.end();
    }

    private static void refused(Checks checks, ArrayRecords array, String what, Class<? extends RuntimeException> due,
            Checks.Call call) {
        String before = Checks.state(array);
        checks.fails(what, due, call);
        checks.compare(what + " changes nothing", before, Checks.state(array));
    }

    private static void feedRefuses(Checks checks) {
        ArrayRecords array = Checks.done(TEXT);
        Checks.feed(array, "print 5");
        for (int n : new int[] {0, -1, -8, 9, 10, 16, 64, 256, 257, Integer.MIN_VALUE, Integer.MAX_VALUE}) {
            refused(checks, array, "n " + n, IllegalArgumentException.class, () -> array.feed(0x3b3b3b3b3b3b3b3bL, n));
        }
        Checks.feed(array, " ".repeat(492));
        for (int n = 2; n <= 8; n++) {
            int bytes = n;
            refused(checks, array, "499 and " + n, IllegalStateException.class, () -> array.feed(0x3b3b3b3b3b3b3b3bL, bytes));
        }
        refused(checks, array, "n 9 at 499", IllegalArgumentException.class, () -> array.feed(';', 9));
        checks.is("the last byte", 500, () -> array.feed(';', 1));
        for (int n = 1; n <= 8; n++) {
            int bytes = n;
            refused(checks, array, "500 and " + n, IllegalStateException.class, () -> array.feed(0x7d7d7d7d7d7d7d7dL, bytes));
        }
        for (int n : new int[] {0, -1, 9, Integer.MIN_VALUE, Integer.MAX_VALUE}) {
            refused(checks, array, "n first, " + n, IllegalArgumentException.class, () -> array.feed(';', n));
        }
        checks.is("what was fed is all there", 3, array::load);
        array.run(1);
        checks.is("and runs", 5, () -> array.print(2));
    }

    private static void feedTakesTheLowestBytesTheHighestFirst(Checks checks) {
        // "print 78" with 1 to 8 of its bytes fed at once, others of the long being of no account.
        String text = "print 78";
        for (int n = 1; n <= 8; n++) {
            for (long above : new long[] {0, -1, 0x7d7d7d7d7d7d7d7dL, 0x8000000000000000L}) {
                ArrayRecords array = new ArrayRecords();
                for (int at = 0; at < 8; at += n) {
                    int count = Math.min(n, 8 - at);
                    long bytes = count == 8 ? 0 : above << 8 * count;
                    for (int k = 0; k < count; k++) {
                        bytes |= (long) text.charAt(at + k) << 8 * (count - 1 - k);
                    }
                    long fed = bytes;
                    checks.is(n + " bytes", at + count, () -> array.feed(fed, count));
                }
                checks.is("the last byte", 9, () -> array.feed(0xffffffffffffff3bL, 1));
                checks.is("tokens", 3, array::load);
                array.run(1);
                checks.is("the number", 78, () -> array.print(0));
            }
        }
    }

    private static void loadRefuses(Checks checks) {
        for (String wrong : new String[] {"#", "print", "kind cat f:1; let w = 5; delete dog", "kind ^", "delete dog; }",
            "kind cat f:1; kind cat f:1;", "let w = 1; kind w f:1;", "if 1 {", "kind cat a:32, b:32, c:21;", "kind cat f:1, f:1;",
            "kind cat f:1; print w;" + Checks.times(50, "print 1;")}) {
            ArrayRecords array = Checks.done(TEXT);
            String before = Checks.state(array);
            checks.fails(wrong, IllegalArgumentException.class, () -> Checks.feed(array, wrong).load());
            String after = Checks.state(array);
            checks.compare("only the place is new", before.substring(before.indexOf(',')), after.substring(after.indexOf(',')));
            checks.fails("there is no program", IllegalStateException.class, () -> array.run(1));
            checks.fails("there is none still", IllegalStateException.class, () -> array.run(20000));
            checks.wrong(array, "insert ^cat f=1;");
            checks.right(array, "kind w cat:1; let cat = 1;", 6 + 5);
            checks.right(array, "insert w cat=1; print v;", 6 + 3);
            checks.is("it runs", 0, () -> array.run(2));
            checks.is("the kind is the second", 2, () -> array.word(2, 0));
            checks.is("variables are as they were", 7, () -> array.print(2));
        }
    }

    private static void loadUsesTheTapeUp(Checks checks) {
        ArrayRecords array = new ArrayRecords();
        for (String text : new String[] {"print 1;", "print", "", Checks.times(51, "print 1;"), " ", "#"}) {
            Checks.answer(() -> Checks.feed(array, text).load());
            checks.is("the tape is empty behind " + text, 8, () -> array.feed(0x7072696e7420373bL, 8));
            checks.is("and has what was fed", 3, array::load);
            checks.is("nothing is left", 0, array::load);
            checks.is("that is the program", 0, () -> array.run(5));
            checks.is("which does nothing", 0, array::printed);
        }
    }

    private static void runRefuses(Checks checks) {
        ArrayRecords array = new ArrayRecords();
        int[] wrong = {0, -1, -20000, 20001, 20002, 40000, Integer.MIN_VALUE, Integer.MAX_VALUE};
        for (int fuel : wrong) {
            refused(checks, array, "fuel first, " + fuel, IllegalArgumentException.class, () -> array.run(fuel));
        }
        for (int fuel : new int[] {1, 2, 19999, 20000}) {
            refused(checks, array, "no program", IllegalStateException.class, () -> array.run(fuel));
        }
        Checks.done(array, TEXT);
        for (int fuel : wrong) {
            refused(checks, array, "fuel " + fuel, IllegalArgumentException.class, () -> array.run(fuel));
        }
        checks.is("the program is there still", 0, () -> array.run(20000));
        checks.is("and was run twice", 4, array::printed);
        checks.fails("a wrong one", IllegalArgumentException.class, () -> Checks.feed(array, "}").load());
        for (int fuel : wrong) {
            refused(checks, array, "fuel first, " + fuel, IllegalArgumentException.class, () -> array.run(fuel));
        }
        refused(checks, array, "no program", IllegalStateException.class, () -> array.run(1));
    }

    private static void printRefuses(Checks checks) {
        ArrayRecords none = new ArrayRecords();
        ArrayRecords array = Checks.done(TEXT);
        for (int k : new int[] {Integer.MIN_VALUE, -65, -64, -1, 2, 3, 63, 64, 65, 66, Integer.MAX_VALUE}) {
            refused(checks, none, "of none " + k, IndexOutOfBoundsException.class, () -> none.print(k));
            refused(checks, array, "of two " + k, IndexOutOfBoundsException.class, () -> array.print(k));
        }
        refused(checks, none, "of none 0", IndexOutOfBoundsException.class, () -> none.print(0));
        checks.is("the first", 7, () -> array.print(0));
        checks.is("the second", -1, () -> array.print(1));
    }

    private static void wordRefuses(Checks checks) {
        ArrayRecords none = new ArrayRecords();
        ArrayRecords array = Checks.done(TEXT);
        int[] no = {Integer.MIN_VALUE, -64, -1, 64, 65, 128, Integer.MAX_VALUE};
        int[] neither = {Integer.MIN_VALUE, -6, -1, 7, 8, 64, Integer.MAX_VALUE};
        for (int w : no) {
            for (int what = 0; what <= 6; what++) {
                int field = what;
                refused(checks, none, "word " + w, IllegalArgumentException.class, () -> none.word(w, field));
                refused(checks, array, "word " + w, IllegalArgumentException.class, () -> array.word(w, field));
            }
            for (int what : neither) {
                refused(checks, array, "both " + w + " " + what, IllegalArgumentException.class, () -> array.word(w, what));
            }
        }
        for (int what : neither) {
            for (int w : new int[] {0, 1, 2, 31, 32, 63}) {
                refused(checks, none, "what " + what, IllegalArgumentException.class, () -> none.word(w, what));
                refused(checks, array, "what " + what, IllegalArgumentException.class, () -> array.word(w, what));
            }
        }
    }

    private static void wordOfAFreeWordOrWithoutSuchAField(Checks checks) {
        ArrayRecords array = Checks.done("kind a p:8; kind b p:8, q:8, r:8, s:8, t:8, u:8; "
                + "insert b p=1, q=2, r=3, s=4, t=5, u=6; insert a p=7; delete b; insert a p=8; delete a where p = 7;");
        int[] first = {1, 8, 0, 0, 0, 0, 0};
        for (int what = 0; what <= 6; what++) {
            int field = what;
            checks.is("a record of one field, " + what, first[what], () -> array.word(0, field));
            checks.is("its record is gone, " + what, 0, () -> array.word(1, field));
            checks.is("it never had one, " + what, 0, () -> array.word(2, field));
            checks.is("the last word, " + what, 0, () -> array.word(63, field));
        }
        Checks.done(array, "while 1 { insert b u=-1; }");
        int[] last = {2, 0, 0, 0, 0, 0, 255};
        for (int what = 0; what <= 6; what++) {
            int field = what;
            checks.is("the last word, " + what, last[what], () -> array.word(63, field));
        }
    }

    private static void looksChangeNothing(Checks checks) {
        ArrayRecords array = Checks.done(TEXT);
        Checks.feed(array, "print v");
        String before = Checks.state(array);
        for (int k = 0; k < 5; k++) {
            checks.compare("looked at", before, Checks.state(array));
        }
        checks.is("the tape goes on", 8, () -> array.feed(';', 1));
        checks.is("load", 3, array::load);
    }

    private static void placeOfTheLatestLoad(Checks checks) {
        ArrayRecords array = new ArrayRecords();
        checks.is("there was none", -1, array::place);
        checks.wrong(array, "print 1; ^;");
        checks.fails("no program", IllegalStateException.class, () -> array.run(1));
        checks.is("a run is no load", 9, array::place);
        Checks.feed(array, "print 1; print ;");
        checks.is("to feed is no load", 9, array::place);
        checks.fails("a wrong n", IllegalArgumentException.class, () -> array.feed(0, 0));
        checks.is("nor is what is refused", 9, array::place);
        checks.fails("wrong", IllegalArgumentException.class, array::load);
        checks.is("the latest", 15, array::place);
        checks.is("an empty one", 0, array::load);
        checks.is("was right", -1, array::place);
        checks.wrong(array, "^}");
        checks.fails("too many", IllegalArgumentException.class,
                () -> Checks.feed(array, Checks.times(51, "print 1;")).load());
        checks.is("right up to there", -1, array::place);
        checks.wrong(array, "print^");
        checks.right(array, "print 1;", 3);
    }
}
