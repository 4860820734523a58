/** Promise 6: steps. */
public final class StepsTest {
    private static final String DOG = "kind dog age:5;";

    public static void main(String[] arguments) {
        Checks checks = new Checks("StepsTest");
        steps(checks, "", 5, 0);
        steps(checks, "print 1;", 5, 1);
        steps(checks, "print 1; let v = 2; print v + v;", 5, 3);
        steps(checks, "print 1; let v = 2;", 1, 1);
        steps(checks, DOG, 5, 1);
        steps(checks, DOG + "insert dog age=1; set dog : age=2; delete dog;", 5, 4);
        steps(checks, "if 1 { print 1; print 2; } else { print 3; }", 9, 3);
        steps(checks, "if 0 { print 1; print 2; } else { print 3; }", 9, 2);
        steps(checks, "if 0 { print 1; }", 9, 1);
        steps(checks, "if 1 { }", 9, 1);
        steps(checks, "while 0 { }", 9, 1);
        steps(checks, "while v < 3 { let v = v + 1; }", 20, 7);
        steps(checks, "while v < 3 { let v = v + 1; }", 6, 6);
        steps(checks, "while 1 { }", 20000, 20000);
        steps(checks, "while 1 { print 1; }", 19999, 19999);
        steps(checks, DOG + "each dog by age { }", 9, 2);
        steps(checks, DOG + "insert dog age=1; insert dog age=2; each dog by age { }", 9, 6);
        steps(checks, DOG + "insert dog age=1; insert dog age=2; each dog by age where age = 2 { }", 9, 5);
        steps(checks, DOG + "insert dog age=1; insert dog age=2; each dog by age { dog.age = 3; remove dog; }", 20, 10);
        steps(checks, DOG + "insert dog age=1; insert dog age=2; each dog by age { remove dog; remove dog; }", 20, 10);
        steps(checks, DOG + "insert dog age=1; insert dog age=2; each dog by age { delete dog; }", 20, 6);
        steps(checks, DOG + "insert dog age=1; insert dog age=2; each dog by age { }", 5, 5);
        steps(checks, DOG + "insert dog age=1; each dog by age { each dog by age { print 1; } }", 20, 7);
        steps(checks, DOG + "while 1 { insert dog age=1; }", 20000, 1 + 65 * 2);
        latest(checks);
        checks.end();
    }

    private static void steps(Checks checks, String text, int fuel, int due) {
        ArrayRecords array = Checks.loaded(text);
        checks.is("not run yet", 0, array::steps);
        array.run(fuel);
        checks.is(text + " with " + fuel, due, array::steps);
    }

    private static void latest(Checks checks) {
        ArrayRecords array = Checks.done("print 1; print 2;");
        checks.is("two", 2, array::steps);
        array.run(1);
        checks.is("the latest run", 1, array::steps);
        checks.fails("wrong fuel", IllegalArgumentException.class, () -> array.run(0));
        checks.is("a call that throws is no run", 1, array::steps);
        Checks.feed(array, "print 1; print 2; print 3;").load();
        checks.is("a load is no run", 1, array::steps);
        array.run(9);
        checks.is("three", 3, array::steps);
        checks.fails("wrong", IllegalArgumentException.class, () -> Checks.feed(array, "}").load());
        checks.fails("no program", IllegalStateException.class, () -> array.run(9));
        checks.is("still three", 3, array::steps);
    }
}
