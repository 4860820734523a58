/** Promise 1: no kinds, no records, no program. */
public final class NewObjectTest {
    public static void main(String[] arguments) {
        Checks checks = new Checks("NewObjectTest");
        ArrayRecords array = new ArrayRecords();
        checks.is("records", 0, array::records);
        checks.is("place", -1, array::place);
        checks.is("steps", 0, array::steps);
        checks.is("printed", 0, array::printed);
        checks.fails("print 0", IndexOutOfBoundsException.class, () -> array.print(0));
        checks.fails("run without a program", IllegalStateException.class, () -> array.run(1));
        for (int w = 0; w < 64; w++) {
            for (int what = 0; what <= 6; what++) {
                int at = w;
                int of = what;
                checks.is("word " + w + " " + what, 0, () -> array.word(at, of));
            }
        }
        checks.is("an empty tape", 1, () -> array.feed('{', 1));
        twoObjects(checks);
        noKinds(checks);
        checks.end();
    }

    private static void noKinds(Checks checks) {
        for (String text : new String[] {"delete dog;", "insert dog f=1;", "print count(dog);", "each dog by f { }"}) {
            ArrayRecords array = new ArrayRecords();
            checks.fails(text, IllegalArgumentException.class, () -> Checks.feed(array, text).load());
        }
    }

    private static void twoObjects(Checks checks) {
        ArrayRecords one = Checks.done("kind dog age:5; insert dog age=3; let v = 4; print v;");
        ArrayRecords other = new ArrayRecords();
        checks.is("another object's records", 0, other::records);
        checks.is("another object's numbers", 0, other::printed);
        Checks.done(other, "kind v a:1; insert v a=1;");
        checks.is("records of the first", 3, () -> one.word(0, 1));
        checks.is("records of the other", 1, () -> other.word(0, 1));
    }
}
