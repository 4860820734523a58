/** The boundary cases of the fuel: what each statement costs, and that a run ends before what it has no fuel for. */
public final class FuelBoundaryTest {
    private static final String BEFORE = "kind dog age:8, size:8; insert dog age=1; insert dog age=2; insert dog age=3;";

    public static void main(String[] arguments) {
        Checks checks = new Checks("FuelBoundaryTest");
        fuelIsOneToTwentyThousand(checks);
        eachStatementThatIsBegun(checks);
        whileEachTimeThatItIsLookedAt(checks);
        eachOneAndOneForEachRecord(checks);
        recordsThatAreGoneCostNothing(checks);
        endsSpentBeforeThat(checks);
        fullOrSpent(checks);
        stepsOfTheLatestRun(checks);
        runsFromItsBeginning(checks);
        mostFuel(checks);
        checks.end();
    }

    /** With any fuel below the cost it is spent, with the cost and with more it is through. */
    private static void costs(Checks checks, String text, int cost) {
        for (int fuel = 1; fuel <= cost + 2; fuel++) {
            int given = fuel;
            ArrayRecords array = Checks.done(BEFORE);
            Checks.feed(array, text).load();
            checks.is(text + " with " + fuel, fuel < cost ? 1 : 0, () -> array.run(given));
            checks.is(text + " took of " + fuel, Math.min(fuel, cost), array::steps);
        }
    }

    private static void fuelIsOneToTwentyThousand(Checks checks) {
        for (String text : new String[] {"", "print 1;", "while 1 { }"}) {
            ArrayRecords array = Checks.loaded(text);
            for (int fuel : new int[] {0, -1, -20000, 20001, 20002, 65536, 65537, Integer.MAX_VALUE, Integer.MIN_VALUE}) {
                checks.fails(text + " with " + fuel, IllegalArgumentException.class, () -> array.run(fuel));
            }
            int outcome = text.startsWith("while") ? 1 : 0;
            checks.is(text + " with 1", outcome, () -> array.run(1));
            checks.is(text + " with 20000", outcome, () -> array.run(20000));
        }
    }

    private static void eachStatementThatIsBegun(Checks checks) {
        costs(checks, "", 0);
        costs(checks, "kind k f:1;", 1);
        costs(checks, "insert dog age=1;", 1);
        costs(checks, "insert dog age=1, size=count(dog) + sum(dog.age where age > 1);", 1);
        costs(checks, "delete dog;", 1);
        costs(checks, "delete dog where age = 2;", 1);
        costs(checks, "delete dog where 0;", 1);
        costs(checks, "set dog : age=1, size=2;", 1);
        costs(checks, "set dog where 0 : age=1;", 1);
        costs(checks, "let v = 1;", 1);
        costs(checks, "print ((1 + 2) * 3);", 1);
        costs(checks, "if 1 { }", 1);
        costs(checks, "if 0 { }", 1);
        costs(checks, "if 1 { } else { }", 1);
        costs(checks, "if 1 { print 1; } else { print 2; print 3; }", 2);
        costs(checks, "if 0 { print 1; } else { print 2; print 3; }", 3);
        costs(checks, "if 0 { kind k f:1; } print 1;", 2);
        costs(checks, "print 1; print 2; let v = 3; kind k f:1; insert k f=1; delete k; set k : f=1;", 7);
        costs(checks, "if 1 { if 1 { if 0 { } else { print 1; } } } print 2;", 5);
    }

    private static void whileEachTimeThatItIsLookedAt(Checks checks) {
        costs(checks, "while 0 { }", 1);
        costs(checks, "while 0 { print 1; }", 1);
        costs(checks, "while v < 1 { let v = v + 1; }", 3);
        costs(checks, "while v < 3 { let v = v + 1; }", 7);
        costs(checks, "while v < 3 { let v = v + 1; } while v { let v = v - 1; }", 14);
        costs(checks, "while v < 2 { let v = v + 1; while w < v { let w = w + 1; } }", 1 + 2 * 2 + 3 + 3);
    }

    private static void eachOneAndOneForEachRecord(Checks checks) {
        costs(checks, "each dog by age { }", 4);
        costs(checks, "each dog by age where 0 { print 1; }", 1);
        costs(checks, "each dog by age where age = 2 { }", 2);
        costs(checks, "each dog by age { print 1; }", 7);
        costs(checks, "each dog by age { print 1; let v = 1; }", 10);
        costs(checks, "each dog by age { dog.age = 1; remove dog; }", 10);
        costs(checks, "each dog by age { each dog by age { } }", 1 + 3 + 3 * 4);
        costs(checks, "each dog by age where age = 1 { insert dog age=1; }", 3);
        costs(checks, "kind cat f:1; each cat by f { print 1; }", 2);
    }

    private static void recordsThatAreGoneCostNothing(Checks checks) {
        costs(checks, "each dog by age { delete dog; }", 3);
        costs(checks, "each dog by age { delete dog where age = 2; }", 5);
        costs(checks, "each dog by age { delete dog where age = 3; }", 5);
        costs(checks, "each dog by age { delete dog where age > 1; print 1; }", 4);
        costs(checks, "each dog by age { delete dog; insert dog age=1; insert dog age=2; insert dog age=3; }", 6);
        costs(checks, "each dog by age { delete dog; dog.age = 1; remove dog; }", 5);
    }

    private static void spent(Checks checks, String text, int fuel, String due) {
        ArrayRecords array = Checks.done(BEFORE);
        Checks.feed(array, text).load();
        checks.is(text + " with " + fuel, 1, () -> array.run(fuel));
        Checks.done(array, "print v; print count(dog); print sum(dog.age); print sum(dog.size);");
        checks.compare(text + " with " + fuel, due, Checks.prints(array));
    }

    private static void endsSpentBeforeThat(Checks checks) {
        spent(checks, "print 5; print 6;", 1, "5 0 3 6 0");
        spent(checks, "print 5; let v = 6;", 1, "5 0 3 6 0");
        spent(checks, "let v = 5; insert dog age=1;", 1, "5 3 6 0");
        spent(checks, "let v = 5; delete dog;", 1, "5 3 6 0");
        spent(checks, "let v = 5; set dog : size=1;", 1, "5 3 6 0");
        spent(checks, "each dog by age { dog.size = 1; remove dog; }", 1, "0 3 6 0");
        spent(checks, "each dog by age { dog.size = 1; remove dog; }", 2, "0 3 6 0");
        spent(checks, "each dog by age { dog.size = 1; remove dog; }", 3, "0 3 6 1");
        spent(checks, "each dog by age { dog.size = 1; remove dog; }", 4, "0 2 5 0");
        spent(checks, "each dog by age { dog.size = 1; remove dog; }", 5, "0 2 5 0");
        spent(checks, "each dog by age { dog.size = 1; remove dog; }", 6, "0 2 5 1");
        spent(checks, "if 1 { let v = 5; }", 1, "0 3 6 0");
        spent(checks, "if 0 { } else { let v = 5; }", 1, "0 3 6 0");
        spent(checks, "while 1 { let v = v + 1; }", 1, "0 3 6 0");
        spent(checks, "while 1 { let v = v + 1; }", 2, "1 3 6 0");
        spent(checks, "while 1 { let v = v + 1; }", 3, "1 3 6 0");
        spent(checks, "while 1 { let v = v + 1; }", 20000, "10000 3 6 0");
    }

    private static void fullOrSpent(Checks checks) {
        ArrayRecords array = Checks.done("kind k f:8; while v < 64 { insert k f=v; let v = v + 1; }");
        Checks.feed(array, "print 1; insert k f=1; print 2;").load();
        checks.is("spent before the insertion", 1, () -> array.run(1));
        checks.is("steps", 1, array::steps);
        checks.is("full with the fuel for it", 2, () -> array.run(2));
        checks.is("the insertion was begun", 2, array::steps);
        checks.is("full with more", 2, () -> array.run(20000));
        checks.is("the insertion was begun", 2, array::steps);
        checks.is("printed", 3, array::printed);
    }

    private static void stepsOfTheLatestRun(Checks checks) {
        ArrayRecords array = new ArrayRecords();
        checks.is("no run", 0, array::steps);
        checks.fails("no program", IllegalStateException.class, () -> array.run(5));
        checks.is("no run", 0, array::steps);
        Checks.feed(array, "print 1; print 2; print 3;").load();
        for (int fuel : new int[] {3, 1, 2, 20000}) {
            array.run(fuel);
            checks.is("of the latest run", Math.min(fuel, 3), array::steps);
        }
        checks.fails("too much fuel", IllegalArgumentException.class, () -> array.run(20001));
        checks.is("of the latest run", 3, array::steps);
        Checks.feed(array, "").load();
        checks.is("a load takes none", 3, array::steps);
        array.run(7);
        checks.is("an empty program takes none", 0, array::steps);
    }

    private static void runsFromItsBeginning(Checks checks) {
        ArrayRecords array = Checks.loaded("let v = v + 1; print v; while 1 { let w = w + 1; }");
        for (int k = 1; k <= 5; k++) {
            checks.is("spent", 1, () -> array.run(10));
        }
        checks.compare("from its beginning each time", "1 2 3 4 5", Checks.prints(array));
        // A run that ended within an each leaves no cursor to the next.
        Checks.done(array, "kind k f:8; insert k f=1; insert k f=2;");
        Checks.feed(array, "each k by f { print k.f * 10; print 0; }").load();
        checks.is("spent within the each", 1, () -> array.run(3));
        checks.is("spent within the each", 1, () -> array.run(3));
        checks.is("through", 0, () -> array.run(7));
        checks.compare("from its beginning each time", "1 2 3 4 5 10 10 10 0 20 0", Checks.prints(array));
    }

    private static void mostFuel(Checks checks) {
        ArrayRecords array = Checks.loaded("while v < 9999 { let v = v + 1; } print v;");
        checks.is("20000 in all", 0, () -> array.run(20000));
        checks.is("steps", 20000, array::steps);
        Checks.feed(array, "let v = 0; while v < 9999 { let v = v + 1; } print v;").load();
        checks.is("20001 in all", 1, () -> array.run(20000));
        checks.is("steps", 20000, array::steps);
        checks.is("the last one was not begun", 1, array::printed);
        // Ten deep, so that most steps are the ways back, which cost nothing.
        ArrayRecords deep = Checks.done("kind k f:8; insert k f=1; insert k f=2;");
        Checks.feed(deep, Checks.times(10, "each k by f {") + "print 1;" + Checks.times(10, "}")).load();
        int cost = 1 + (1 << 10);
        for (int level = 1; level <= 10; level++) {
            cost += (1 << level) + (level < 10 ? 1 << level : 0);
        }
        int due = cost;
        checks.is("through", 0, () -> deep.run(20000));
        checks.is("steps", due, deep::steps);
        checks.is("printed", 1024, deep::printed);
        checks.is("one less", 1, () -> deep.run(due - 1));
        checks.is("printed", 2047, deep::printed);
    }
}
