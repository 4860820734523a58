/** Promise 10: records. */
public final class RecordsTest {
    public static void main(String[] arguments) {
        Checks checks = new Checks("RecordsTest");
        ArrayRecords array = new ArrayRecords();
        checks.is("none", 0, array::records);
        Checks.feed(array, "kind a p:8; kind b p:8; insert a p=1; insert b p=2; insert a p=3;").load();
        checks.is("a load inserts nothing", 0, array::records);
        array.run(3);
        checks.is("one", 1, array::records);
        array.run(20);
        checks.is("of all kinds", 4, array::records);
        Checks.done(array, "set a : p = 0;");
        checks.is("set keeps them", 4, array::records);
        Checks.done(array, "delete a where p = 1;");
        checks.is("none such", 4, array::records);
        Checks.done(array, "delete b;");
        checks.is("three", 3, array::records);
        Checks.done(array, "each a by p { remove a; remove a; insert b p=1; }");
        checks.is("three others", 3, array::records);
        checks.fails("wrong", IllegalArgumentException.class, () -> Checks.feed(array, "delete b").load());
        checks.is("a wrong program changes none", 3, array::records);
        Checks.done(array, "while 1 { insert a p=1; }");
        checks.is("full", 64, array::records);
        array.run(20);
        checks.is("full still", 64, array::records);
        Checks.done(array, "delete a; delete b;");
        checks.is("none again", 0, array::records);
        checks.end();
    }
}
