/** Promise 5: run, and what the statements and expressions do. */
public final class RunTest {
    private static final String DOG = "kind dog age:5, size:8;";

    public static void main(String[] arguments) {
        Checks checks = new Checks("RunTest");
        fuelAndProgram(checks);
        spent(checks);
        full(checks);
        numbers(checks);
        truths(checks);
        order(checks);
        fields(checks);
        insertAndDelete(checks);
        set(checks);
        variables(checks);
        aggregates(checks);
        each(checks);
        cursors(checks);
        goneCursors(checks);
        names(checks);
        conditions(checks);
        again(checks);
        checks.end();
    }

    private static void fuelAndProgram(Checks checks) {
        ArrayRecords array = new ArrayRecords();
        for (int fuel : new int[] {0, -1, 20001, Integer.MAX_VALUE, Integer.MIN_VALUE}) {
            checks.fails("fuel " + fuel + " without program", IllegalArgumentException.class, () -> array.run(fuel));
        }
        checks.fails("no program", IllegalStateException.class, () -> array.run(1));
        checks.fails("no program", IllegalStateException.class, () -> array.run(20000));
        Checks.feed(array, "print 5;").load();
        for (int fuel : new int[] {0, -1, 20001, Integer.MAX_VALUE, Integer.MIN_VALUE}) {
            checks.fails("fuel " + fuel, IllegalArgumentException.class, () -> array.run(fuel));
        }
        checks.is("nothing was run", 0, array::printed);
        checks.is("the least fuel", 0, () -> array.run(1));
        checks.is("the most fuel", 0, () -> array.run(20000));
        Checks.feed(array, "print 6;");
        checks.is("what is fed is not yet the program", 0, () -> array.run(3));
        checks.compare("numbers", "5 5 5", Checks.prints(array));
    }

    private static void outcome(Checks checks, String text, int fuel, int due, String numbers) {
        ArrayRecords array = Checks.loaded(text);
        checks.is(text + " with " + fuel, due, () -> array.run(fuel));
        checks.compare(text + " with " + fuel, numbers, Checks.prints(array));
    }

    private static void spent(Checks checks) {
        outcome(checks, "print 1; print 2;", 1, 1, "1");
        outcome(checks, "print 1; print 2;", 2, 0, "1 2");
        outcome(checks, "kind a f:1; print 1;", 1, 1, "");
        outcome(checks, "kind a f:1; print 1;", 2, 0, "1");
        outcome(checks, "while 1 { }", 20000, 1, "");
        outcome(checks, "while v < 2 { let v = v + 1; print v; }", 7, 0, "1 2");
        outcome(checks, "while v < 2 { let v = v + 1; print v; }", 6, 1, "1 2");
        outcome(checks, "while v < 2 { let v = v + 1; print v; }", 5, 1, "1");
        outcome(checks, "if 1 { print 1; } else { print 2; }", 1, 1, "");
        outcome(checks, "if 1 { print 1; } else { print 2; }", 2, 0, "1");
        outcome(checks, "if 0 { print 1; } else { print 2; }", 2, 0, "2");
        outcome(checks, "if 0 { print 1; }", 1, 0, "");
        String two = DOG + "insert dog age=2; insert dog age=1;";
        outcome(checks, two + "each dog by age { print dog.age; }", 8, 0, "1 2");
        outcome(checks, two + "each dog by age { print dog.age; }", 7, 1, "1");
        outcome(checks, two + "each dog by age { print dog.age; }", 6, 1, "1");
        outcome(checks, two + "each dog by age { print dog.age; }", 5, 1, "");
        outcome(checks, two + "each dog by age { }", 6, 0, "");
        outcome(checks, two + "each dog by age { }", 5, 1, "");
        outcome(checks, two + "each dog by age where age > 5 { print 1; }", 4, 0, "");
        outcome(checks, two + "each dog by age { delete dog; }", 6, 0, "");
        ArrayRecords array = Checks.loaded(DOG + "insert dog age=1; delete dog; print 1;");
        checks.is("spent before the deletion", 1, () -> array.run(2));
        checks.is("the record is there", 1, array::records);
    }

    private static void full(Checks checks) {
        ArrayRecords array = Checks.loaded(DOG + "while 1 { insert dog age=v; let v = v + 1; }");
        checks.is("full", 2, () -> array.run(20000));
        checks.is("64 records", 64, array::records);
        checks.is("the last word", 31, () -> array.word(63, 1));
        Checks.feed(array, "print 1; insert dog age=1, size=2; print 2;").load();
        checks.is("full again", 2, () -> array.run(2));
        checks.compare("it ended there", "1", Checks.prints(array));
        checks.is("spent before it is full", 1, () -> array.run(1));
        Checks.feed(array, "delete dog where age = 7; insert dog size=9; print count(dog);").load();
        checks.is("room again", 0, () -> array.run(9));
        checks.is("the free word with the lowest number", 9, () -> array.word(7, 2));
        checks.is("records", 63, array::records);
    }

    private static void numbers(Checks checks) {
        checks.gives("print 2147483647 + 1; print -2147483647 - 2; print 65536 * 65536; print 2147483647 * 3;",
                "-2147483648 2147483647 0 2147483645");
        checks.gives("print 7 / 2; print -7 / 2; print 7 / -2; print -7 / -2;", "3 -3 -3 3");
        checks.gives("print 7 % 3; print -7 % 3; print 7 % -3; print -7 % -3;", "1 -1 1 -1");
        checks.gives("print 5 / 0; print 5 % 0; print 0 / 0; print -5 % 0;", "0 0 0 0");
        checks.gives("let m = -2147483647 - 1; print m / -1; print m % -1; print -m; print m * -1; print m / 1;",
                "-2147483648 0 -2147483648 -2147483648 -2147483648");
        checks.gives("print 007; print 2147483647; print 0; print -0;", "7 2147483647 0 0");
    }

    private static void truths(Checks checks) {
        checks.gives("print 1 < 2; print 2 < 2; print 3 < 2; print -1 < 0;", "1 0 0 1");
        checks.gives("print 1 <= 2; print 2 <= 2; print 3 <= 2;", "1 1 0");
        checks.gives("print 1 > 2; print 2 > 2; print 3 > 2;", "0 0 1");
        checks.gives("print 1 >= 2; print 2 >= 2; print 3 >= 2;", "0 1 1");
        checks.gives("print 1 = 2; print 2 = 2; print 1 != 2; print 2 != 2;", "0 1 1 0");
        checks.gives("print 5 and -3; print 5 and 0; print 0 and 5; print 0 and 0;", "1 0 0 0");
        checks.gives("print 5 or -3; print 8 or 0; print 0 or 6; print 0 or 0;", "1 1 1 0");
        checks.gives("print not 0; print not 5; print not not 5; print not -1; print not not not 0;", "1 0 1 0 1");
        checks.gives("print 2 and 4; print 1 and 2 = 2;", "1 1");
        checks.gives("let m = 2147483647; print m + 1 < m; print m < m + 1; print -m - 1 < m;", "1 0 1");
    }

    private static void order(Checks checks) {
        checks.gives("print 2 + 3 * 4; print 2 * 3 + 4; print (2 + 3) * 4; print 10 - 4 - 3; print 10 - (4 - 3);",
                "14 10 20 3 9");
        checks.gives("print 100 / 7 / 2; print 100 / 7 * 2; print 100 % 7 * 3; print 2 * 7 / 3 % 3;", "7 28 6 1");
        checks.gives("print -2 * 3; print 2 * -3; print 2 - -3; print - - 2; print -(2 + 3); print -7 / 2 + - - 1;",
                "-6 -6 5 2 -5 -2");
        checks.gives("print 1 or 0 and 0; print (1 or 0) and 0; print 0 and 0 or 1; print 0 and (0 or 1);", "1 0 1 0");
        checks.gives("print not 0 and 0; print not (0 and 0); print not 1 or 1; print not (1 or 1);", "0 1 1 0");
        checks.gives("print not 2 = 2; print (not 2) = 0; print not 1 = 2; print not 3 - 3;", "0 1 1 1");
        checks.gives("print 1 + 1 = 2; print 2 * 2 > 1 + 2; print (1 = 1) + 1; print 1 = 1 and 2 = 2;", "1 1 2 1");
        checks.gives("print 3 > 2 or 1 = 2 and 0 != 0; print (3 > 2) > 1; print 1 - 1 or 0; print not 1 < 0 and 3;",
                "1 0 0 1");
        checks.gives("print ((((((((((1 + 2))))))))) + 3); print (1)+(2)*((3)-(1));", "6 5");
    }

    private static void fields(Checks checks) {
        checks.gives("kind k a:1, b:8, c:31, d:32; insert k a=3, b=-1, c=-1, d=-1; each k by a { print k.a; print k.b; "
                + "print k.c; print k.d; }", "1 255 2147483647 -1");
        checks.gives("kind k a:1, b:8, c:31, d:32; insert k a=2, b=256, c=2147483647+1, d=2147483647+1; "
                + "each k by a { print k.a; print k.b; print k.c; print k.d; }", "0 0 0 -2147483648");
        checks.gives("kind k a:4; insert k a=5; set k : a = a - 6; print sum(k.a); each k by a { k.a = 33; } "
                + "print sum(k.a);", "15 1");
        checks.gives("kind k a:32; insert k a=-5; print sum(k.a); set k where a < 0 : a = a * 2; print least(k.a);",
                "-5 -10");
    }

    private static void insertAndDelete(Checks checks) {
        checks.gives(DOG + "insert dog size=7; each dog by age { print dog.age; print dog.size; }", "0 7");
        checks.gives(DOG + "insert dog age=1, size=9; delete dog; insert dog age=2; print sum(dog.size);", "0");
        checks.gives(DOG + "insert dog age=1; insert dog age=count(dog) + 1, size=count(dog); print sum(dog.age); "
                + "print sum(dog.size);", "3 1");
        checks.gives(DOG + "kind cat age:5; insert dog age=1; insert cat age=2; insert dog age=3; delete dog where age = 1;"
                + "print count(dog); print count(cat); delete dog; print count(dog); print count(cat);", "1 1 0 1");
        checks.gives(DOG + "insert dog age=1; insert dog age=2; insert dog age=3; delete dog where age != 2; "
                + "print sum(dog.age);", "2");
        checks.gives(DOG + "delete dog; delete dog where age; print count(dog);", "0");
        checks.gives(DOG + "insert dog age=1; delete dog where 0; print count(dog); delete dog where -1; "
                + "print count(dog);", "1 0");
    }

    private static void set(Checks checks) {
        checks.gives(DOG + "insert dog age=1, size=2; set dog : age=size, size=age; print sum(dog.age); "
                + "print sum(dog.size);", "2 1");
        checks.gives(DOG + "insert dog age=1; insert dog age=2; insert dog age=3; set dog where age >= 2 : size=age*10;"
                + "print sum(dog.size); print count(dog where size = 0);", "50 1");
        checks.gives(DOG + "insert dog age=1; insert dog age=2; set dog where age = 1 : age = age + 1; "
                + "print sum(dog.age); set dog : age = age + v + 1; print sum(dog.age);", "4 6");
        checks.gives(DOG + "insert dog age=4; insert dog age=6; each dog by age { set dog where age > dog.age : "
                + "size = dog.age; set dog : age = dog.age + age; } print least(dog.age); print greatest(dog.age); "
                + "print sum(dog.size);", "18 20 4");
        checks.gives(DOG + "set dog : age = 1; print count(dog);", "0");
    }

    private static void variables(Checks checks) {
        checks.gives("print v; let v = v + 1; print v; let v = v * 10; print v; print w;", "0 1 10 0");
        checks.gives("let a = 1; let b = 2; let c = a; let a = b; let b = c; print a; print b;", "2 1");
        checks.gives("if 0 { let v = 1; } print v; let abcdefgh = 3; let abcdefg = 4; print abcdefgh;", "0 3");
        ArrayRecords array = Checks.done("let v = 5;");
        Checks.done(array, "print v; let v = v + 1;");
        array.run(10);
        checks.compare("variables stay from run to run", "5 6", Checks.prints(array));
    }

    private static void aggregates(Checks checks) {
        String three = DOG + "insert dog age=4, size=1; insert dog age=2, size=2; insert dog age=9, size=3;";
        checks.gives(three + "print count(dog); print sum(dog.age); print least(dog.age); print greatest(dog.age);",
                "3 15 2 9");
        checks.gives(three + "print count(dog where age > 2); print sum(dog.size where age > 2); "
                + "print least(dog.age where size > 1 and age > 2); print greatest(dog.age where size < 3);", "2 4 9 4");
        checks.gives(three + "print count(dog where 0); print sum(dog.age where 0); print least(dog.age where 0); "
                + "print greatest(dog.age where 0);", "0 0 0 0");
        checks.gives("kind k a:32; print least(k.a); print greatest(k.a); insert k a=-3; insert k a=-8; "
                + "print least(k.a); print greatest(k.a); print sum(k.a);", "0 0 -8 -3 -11");
        checks.gives("kind k a:32; insert k a=2147483647; insert k a=1; print sum(k.a); print least(k.a); "
                + "print greatest(k.a);", "-2147483648 1 2147483647");
        checks.gives(three + "print sum(dog.age) / count(dog) + -least(dog.age) * 2; print (count(dog)) = 3; "
                + "print not count(dog where age = 5) and count(dog where (age = 4)) = 1;", "1 1 1");
        checks.gives(three + "let age = 4; print count(dog where age = 2) + age; print sum(dog.age where v = 0);", "5 15");
        checks.gives(three + "print 100 - count(dog where size = 1 or size = 2) * 10 - 1;", "79");
        checks.gives(three + "if count(dog where size > 2) { print 1; } while count(dog) { delete dog where age = "
                + "w; let w = w + 1; } print w;", "1 10");
    }

    private static void each(Checks checks) {
        String three = DOG + "insert dog age=4, size=1; insert dog age=2, size=2; insert dog age=4, size=3;";
        checks.gives(three + "each dog by age { print dog.size; }", "2 1 3");
        checks.gives(three + "each dog by size where age = 4 { print dog.size; }", "1 3");
        checks.gives(three + "delete dog where size = 1; insert dog age=4, size=9; each dog by age { print dog.size; }",
                "2 9 3");
        checks.gives("kind k a:32; insert k a=1; insert k a=-1; insert k a=0; each k by a { print k.a; }", "-1 0 1");
        checks.gives(three + "each dog by age { set dog : age = 9 - age; print dog.size; }", "2 1 3");
        checks.gives(three + "each dog by age { insert dog age=0; print dog.size; } print count(dog);", "2 1 3 6");
        checks.gives(three + "each dog by age where age = 4 { set dog : age = 0; print dog.size; }", "1 3");
        checks.gives(three + "each dog by size { print dog.size; delete dog where size = 2; }", "1 3");
        checks.gives(three + "each dog by size { print dog.size; delete dog where size = 2; insert dog size=7; }", "1 3");
        checks.gives(three + "each dog by size { each dog by age { print dog.size; } print dog.size; }",
                "2 1 3 1 2 1 3 2 2 1 3 3");
        checks.gives(three + "each dog by size { each dog by age where size > dog.size { print dog.size; } }", "2 3 3");
        checks.gives(DOG + "each dog by age { print 1; } print 2;", "2");
        checks.gives(DOG + "let v = 5; while v { insert dog age=v, size=v % 3; let v = v - 1; } "
                + "each dog by age { print dog.age; } each dog by size { print dog.age; }", "1 2 3 4 5 3 4 1 5 2");
        checks.gives("kind k a:8, b:8; let v = 64; while v { insert k a=v; let v = v - 1; } each k by a { let n = n + 1; "
                + "k.b = n; } print n; print count(k where a = b); print count(k);", "64 64 64");
    }

    private static void cursors(Checks checks) {
        String two = DOG + "insert dog age=1, size=5; insert dog age=2, size=6;";
        checks.gives(two + "each dog by age { dog.size = dog.size * 2; } print sum(dog.size);", "22");
        checks.gives(two + "each dog by age { if dog.age = 1 { remove dog; } } print sum(dog.age);", "2");
        checks.gives(two + "each dog by age { print sum(dog.size where age != dog.age); }", "6 5");
        checks.gives(two + "each dog by age { insert dog age=dog.age + 10, size=dog.size; } print sum(dog.age);", "26");
        checks.gives(two + "each dog by age { each dog by age { dog.size = 1; } dog.size = dog.size + 1; } "
                + "print sum(dog.size);", "3");
        checks.gives(two + "kind cat owner:5; each dog by age { insert cat owner=dog.age; each cat by owner { "
                + "print cat.owner * 10 + dog.age; } }", "11 12 22");
        checks.gives(two + "each dog by age { while dog.size > 4 { dog.size = dog.size - 1; } } print sum(dog.size);", "8");
        checks.gives(two + "kind cat n:3; insert cat n=1; each cat by n { each dog by age where age > cat.n { cat.n = "
                + "dog.age + 3; } print cat.n; }", "5");
    }

    private static void goneCursors(Checks checks) {
        String two = DOG + "insert dog age=1, size=5; insert dog age=2, size=6;";
        checks.gives(two + "each dog by age { remove dog; print dog.size; dog.size = 9; remove dog; } print count(dog);",
                "0 0 0");
        checks.gives(two + "each dog by age where age = 1 { remove dog; insert dog age=7, size=7; print dog.size; "
                + "dog.size = 9; remove dog; } print sum(dog.size);", "0 13");
        checks.gives(two + "each dog by age { delete dog where age = 2; insert dog age=3; print dog.age; } "
                + "print count(dog);", "1 2");
        checks.gives(two + "each dog by age { each dog by age { remove dog; } print dog.age; } print count(dog);", "0 0");
        checks.gives(two + "each dog by age { delete dog; print sum(dog.size where age = dog.age); } print count(dog);",
                "0 0");
        checks.gives(two + "kind cat age:5; each dog by age { delete dog; insert cat age=3; insert cat age=4; "
                + "print dog.age; remove dog; dog.age = 1; } print sum(cat.age);", "0 7");
    }

    private static void names(Checks checks) {
        checks.gives("kind a a:4; insert a a=3; each a by a { print a.a; a.a = a.a + 1; print count(a where a = 4); }",
                "3 1");
        checks.gives("let age = 30;" + DOG + "insert dog age=age; print count(dog where age = 30); print age;", "1 30");
        checks.gives("let size = 4;" + DOG + "insert dog age=1; set dog : age = size + 2; print sum(dog.age);", "2");
        checks.gives("let size = 4;" + DOG + "insert dog age=1; each dog by age { dog.age = size; } print sum(dog.age);",
                "4");
        checks.gives(DOG + "kind cat dog:8; insert dog age=2; insert cat dog=7; each dog by age { "
                + "print count(cat where dog = 7); print dog.age; }", "1 2");
    }

    private static void conditions(Checks checks) {
        checks.gives("if 1 { print 1; } else { print 2; } print 3;", "1 3");
        checks.gives("if 0 { print 1; } else { print 2; } print 3;", "2 3");
        checks.gives("if 0 { print 1; } print 3; if -1 { print 4; }", "3 4");
        checks.gives("if 1 { if 0 { print 1; } else { print 2; } } else { print 3; }", "2");
        checks.gives("if 0 { if 0 { print 1; } else { print 2; } } else { if 1 { print 3; } print 4; }", "3 4");
        checks.gives("while v < 3 { let w = 0; while w < v { print v * 10 + w; let w = w + 1; } let v = v + 1; }",
                "10 20 21");
        checks.gives("while 0 { print 1; } print 2;", "2");
        checks.gives("while v < 2 { if v { print 1; } else { print 0; } let v = v + 1; }", "0 1");
        checks.gives(Checks.times(10, "if 1 {") + "print 5;" + Checks.times(10, "}"), "5");
    }

    private static void again(Checks checks) {
        ArrayRecords array = Checks.loaded(DOG + "insert dog age=v; let v = v + 1; print count(dog);");
        for (int k = 0; k < 3; k++) {
            checks.is("run", 0, () -> array.run(10));
        }
        checks.compare("from its beginning each time", "1 2 3", Checks.prints(array));
        Checks.feed(array, "each dog by age { print dog.age; let v = v + 1; }").load();
        checks.is("spent within", 1, () -> array.run(3));
        checks.is("from its beginning", 0, () -> array.run(20));
        checks.compare("from its beginning", "1 2 3 0 0 1 2", Checks.prints(array));
    }
}
