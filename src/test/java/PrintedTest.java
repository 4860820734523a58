/** Promises 7 and 8: printed and print. */
public final class PrintedTest {
    public static void main(String[] arguments) {
        Checks checks = new Checks("PrintedTest");
        ordinary(checks);
        latestOnes(checks);
        ever(checks);
        checks.end();
    }

    private static void ordinary(Checks checks) {
        ArrayRecords array = Checks.done("print 5; print -6; print 2147483647;");
        checks.is("printed", 3, array::printed);
        checks.is("the first", 5, () -> array.print(0));
        checks.is("the second", -6, () -> array.print(1));
        checks.is("the last", 2147483647, () -> array.print(2));
        checks.is("again", 5, () -> array.print(0));
        for (int k : new int[] {-1, 3, 4, 64, Integer.MAX_VALUE, Integer.MIN_VALUE}) {
            checks.fails("print " + k, IndexOutOfBoundsException.class, () -> array.print(k));
        }
    }

    private static void latestOnes(Checks checks) {
        ArrayRecords array = Checks.loaded("print v; let v = v + 1;");
        for (int k = 1; k <= 64; k++) {
            array.run(9);
        }
        checks.is("64", 64, array::printed);
        checks.is("all are kept", 0, () -> array.print(0));
        checks.is("all are kept", 63, () -> array.print(63));
        array.run(9);
        checks.is("65", 65, array::printed);
        checks.fails("the first is not kept", IndexOutOfBoundsException.class, () -> array.print(0));
        checks.is("the second is kept", 1, () -> array.print(1));
        checks.is("the last", 64, () -> array.print(64));
        checks.fails("there is no other", IndexOutOfBoundsException.class, () -> array.print(65));
        Checks.done(array, "while v < 3000 { print v; let v = v + 1; }");
        checks.is("3000", 3000, array::printed);
        checks.fails("not kept", IndexOutOfBoundsException.class, () -> array.print(2935));
        for (int k = 2936; k < 3000; k++) {
            int number = k;
            checks.is("kept", k, () -> array.print(number));
        }
        checks.fails("none such", IndexOutOfBoundsException.class, () -> array.print(3000));
    }

    private static void ever(Checks checks) {
        ArrayRecords array = Checks.done("print 1;");
        Checks.done(array, "print 2;");
        checks.is("from program to program", 2, array::printed);
        checks.fails("wrong", IllegalArgumentException.class, () -> Checks.feed(array, "print").load());
        checks.is("a wrong one changes nothing", 2, array::printed);
        Checks.feed(array, "print 3; print 4;").load();
        checks.is("a load prints nothing", 2, array::printed);
        checks.is("spent", 1, () -> array.run(1));
        checks.is("what was printed before it was spent", 3, array::printed);
        checks.is("the first one ever", 1, () -> array.print(0));
        checks.is("the third one", 3, () -> array.print(2));
    }
}
