/** Promise 2: feed. */
public final class FeedTest {
    public static void main(String[] arguments) {
        Checks checks = new Checks("FeedTest");
        order(checks);
        counts(checks);
        wrong(checks);
        full(checks);
        usedUp(checks);
        checks.end();
    }

    private static void order(Checks checks) {
        ArrayRecords array = new ArrayRecords();
        // "print 7;" in one, then " print 8" and ";" behind bytes that do not count.
        checks.is("eight bytes", 8, () -> array.feed(0x7072696e7420373bL, 8));
        checks.is("eight more", 16, () -> array.feed(0x207072696e742038L, 8));
        checks.is("the lowest one", 17, () -> array.feed(0x7d7d7d7d7d7d7d3bL, 1));
        checks.is("the lowest two of a negative number", 19, () -> array.feed(0xffffffffffff200aL, 2));
        checks.is("load", 6, array::load);
        checks.is("run", 0, () -> array.run(9));
        checks.compare("numbers", "7 8", Checks.prints(array));
        highBytes(checks);
    }

    private static void highBytes(Checks checks) {
        ArrayRecords array = new ArrayRecords();
        checks.is("a high byte is a byte", 3, () -> array.feed(0x20ff3bL, 3));
        checks.fails("and wrong", IllegalArgumentException.class, array::load);
        checks.is("where it stands", 1, array::place);
    }

    private static void counts(Checks checks) {
        ArrayRecords array = new ArrayRecords();
        int sum = 0;
        for (int n = 1; n <= 8; n++) {
            int bytes = n;
            sum += n;
            checks.is(n + " bytes", sum, () -> array.feed(0x2020202020202020L, bytes));
        }
        checks.is("blanks alone are no tokens", 0, array::load);
    }

    private static void wrong(Checks checks) {
        ArrayRecords array = new ArrayRecords();
        for (int n : new int[] {0, -1, 9, 16, Integer.MIN_VALUE, Integer.MAX_VALUE}) {
            checks.fails("n " + n, IllegalArgumentException.class, () -> array.feed(0x20, n));
        }
        checks.is("they fed nothing", 1, () -> array.feed(0x20, 1));
    }

    private static void full(Checks checks) {
        ArrayRecords array = new ArrayRecords();
        for (int k = 0; k < 62; k++) {
            array.feed(0x2020202020202020L, 8);
        }
        checks.fails("504 bytes", IllegalStateException.class, () -> array.feed(0x2020202020202020L, 8));
        checks.fails("501 bytes", IllegalStateException.class, () -> array.feed(0x2020202020L, 5));
        checks.is("what was too much fed nothing", 499, () -> array.feed(0x202020, 3));
        checks.fails("501 bytes", IllegalStateException.class, () -> array.feed(0x2020, 2));
        checks.is("500 bytes", 500, () -> array.feed(';', 1));
        checks.fails("501 bytes", IllegalStateException.class, () -> array.feed(' ', 1));
        checks.fails("a wrong n, full as it is", IllegalArgumentException.class, () -> array.feed(' ', 9));
        checks.fails("a wrong n, full as it is", IllegalArgumentException.class, () -> array.feed(' ', 0));
        checks.fails("the last byte is read", IllegalArgumentException.class, array::load);
        checks.is("and wrong", 499, array::place);
    }

    private static void usedUp(Checks checks) {
        ArrayRecords array = Checks.loaded("print 1;");
        checks.is("used up", 1, () -> array.feed('}', 1));
        checks.fails("load", IllegalArgumentException.class, array::load);
        checks.is("used up by a wrong one, too", 1, () -> array.feed(' ', 1));
        Checks.feed(array, Checks.times(499, " "));
        checks.is("load", 0, array::load);
        checks.is("room for 500 again", 1, () -> array.feed(' ', 1));
    }
}
