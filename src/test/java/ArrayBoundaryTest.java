/** The boundary cases of the array: empty and full, insertion, deletion, set, each and its cursors. */
public final class ArrayBoundaryTest {
    private static final String DOG = "kind dog age:8, size:8;";
    private static final String FILL = "while 1 { insert dog age=v; let v = v + 1; }";

    public static void main(String[] arguments) {
        Checks checks = new Checks("ArrayBoundaryTest");
        freeWordWithTheLowestNumber(checks);
        endsFullWithoutAFreeWord(checks);
        allValuesFirstThenTheWord(checks);
        emptyArray(checks);
        oneKindOnlyGoes(checks);
        deleteAllOrSome(checks);
        setAllAtOnce(checks);
        leastAndGreatestOfNoneAreZero(checks);
        eachGoesInOrder(checks);
        orderIsAsItIsThen(checks);
        onlyThoseThatAreStillThere(checks);
        notANewOneInItsWord(checks);
        nothingHappensWhenItIsGone(checks);
        wrongButWithinAnEach(checks);
        innermostEachCounts(checks);
        whereHasTheCursorsAroundIt(checks);
        fieldsWithinWhereAndSet(checks);
        noAggregateWithinWhereAndSet(checks);
        checks.end();
    }

    private static ArrayRecords full() {
        ArrayRecords array = Checks.loaded(DOG + FILL);
        array.run(20000);
        return array;
    }

    private static void freeWordWithTheLowestNumber(Checks checks) {
        ArrayRecords array = Checks.loaded(DOG + "insert dog age=v; let v = v + 1;");
        for (int w = 0; w < 64; w++) {
            int word = w;
            checks.is("free before", 0, () -> array.word(word, 0));
            checks.is("insertion " + w, 0, () -> array.run(9));
            checks.is("in the next word", w, () -> array.word(word, 1) + array.word(word, 0) - 1);
            checks.is("records", w + 1, array::records);
        }
        for (int w : new int[] {63, 0, 31, 32, 1, 62}) {
            ArrayRecords with = full();
            Checks.done(with, "delete dog where age = " + w + "; insert dog age=200; print count(dog);");
            checks.is("the one free word", 200, () -> with.word(w, 1));
            checks.is("none was free then", 2, () -> Checks.feed(with, "insert dog age=1;").load() - 6 + with.run(1));
        }
        ArrayRecords two = full();
        Checks.done(two, "delete dog where age = 40 or age = 63 or age = 8; insert dog age=100; insert dog age=101;");
        checks.compare("the lowest first", "100 101 0", two.word(8, 1) + " " + two.word(40, 1) + " " + two.word(63, 0));
    }

    private static void endsFullWithoutAFreeWord(Checks checks) {
        ArrayRecords array = Checks.loaded(DOG + "while v < 64 { insert dog age=v; let v = v + 1; } print 7;");
        checks.is("64 records have room", 0, () -> array.run(20000));
        checks.is("records", 64, array::records);
        Checks.feed(array, "kind cat f:1; let n = 5; insert cat f=1; print 8; let n = 6;").load();
        checks.is("of any kind", 2, () -> array.run(100));
        checks.is("steps up to there", 3, array::steps);
        checks.is("nothing behind it", 1, array::printed);
        checks.is("records", 64, array::records);
        for (int w = 0; w < 64; w++) {
            int word = w;
            checks.is("the records stay", w, () -> array.word(word, 1));
        }
        Checks.done(array, "print n; print count(cat); print count(dog);");
        checks.compare("what was before stays", "7 5 0 64", Checks.prints(array));
        Checks.feed(array, "each dog by age { insert dog age=1; print 9; }").load();
        checks.is("within an each", 2, () -> array.run(100));
        checks.is("steps", 3, array::steps);
        Checks.feed(array, "if 1 { while 1 { insert dog age=1; } }").load();
        checks.is("within a while", 2, () -> array.run(100));
        Checks.feed(array, "each dog by age { remove dog; insert dog age=1; }").load();
        checks.is("one goes, one comes", 0, () -> array.run(1000));
        checks.is("records", 64, array::records);
    }

    private static void allValuesFirstThenTheWord(Checks checks) {
        checks.gives(DOG + "insert dog age=count(dog), size=count(dog); print sum(dog.age); print sum(dog.size);", "0 0");
        checks.gives(DOG + "insert dog age=3; insert dog age=sum(dog.age) + 1, size=sum(dog.age); print greatest(dog.age); "
                + "print sum(dog.size);", "4 3");
        checks.gives(DOG + "insert dog age=7, size=9; each dog by age { insert dog size=dog.age, age=dog.size; } "
                + "print greatest(dog.age); print least(dog.size);", "9 7");
    }

    private static void emptyArray(Checks checks) {
        checks.gives(DOG + "delete dog; delete dog where 1; set dog : age=1; set dog where 1 : age=1; print count(dog);", "0");
        checks.gives(DOG + "each dog by age { print 1; } each dog by age where 1 { print 2; } print 3;", "3");
        checks.gives(DOG + "print count(dog where 1); print sum(dog.age where 1); print sum(dog.age);", "0 0 0");
        ArrayRecords array = full();
        Checks.done(array, "delete dog;");
        checks.is("empty again", 0, array::records);
        for (int w = 0; w < 64; w++) {
            int word = w;
            checks.is("free", 0, () -> array.word(word, 0) + array.word(word, 1) + array.word(word, 2));
        }
    }

    private static void oneKindOnlyGoes(Checks checks) {
        ArrayRecords array = Checks.done("kind a f:8; kind b f:8; while v < 32 { insert a f=v; insert b f=v; let v = v + 1; }");
        Checks.done(array, "set a : f=f + 100; delete a where f > 120; each b by f where f < 3 { remove b; }");
        Checks.done(array, "print count(a); print count(b); print least(a.f); print least(b.f); print greatest(b.f);");
        checks.compare("each kind for itself", "21 29 100 3 31", Checks.prints(array));
        checks.is("records", 50, array::records);
        Checks.done(array, "delete b;");
        checks.is("records", 21, array::records);
        checks.is("the first word", 100, () -> array.word(0, 1));
        checks.is("the second word", 0, () -> array.word(1, 0));
    }

    private static void deleteAllOrSome(Checks checks) {
        for (int age : new int[] {0, 1, 31, 32, 62, 63}) {
            ArrayRecords array = full();
            Checks.done(array, "delete dog where age = " + age + ";");
            checks.is("one goes", 63, array::records);
            checks.is("that one", 0, () -> array.word(age, 0));
            Checks.done(array, "delete dog where age > " + age + ";");
            checks.is("those above go", age, array::records);
        }
        ArrayRecords array = full();
        Checks.done(array, "delete dog where 0; delete dog where age > 63; delete dog where age < 0;");
        checks.is("none goes", 64, array::records);
        Checks.done(array, "delete dog where age >= 0;");
        checks.is("all go", 0, array::records);
    }

    private static void setAllAtOnce(Checks checks) {
        ArrayRecords array = full();
        Checks.done(array, "set dog : size=age, age=size + 1;");
        for (int w = 0; w < 64; w++) {
            int word = w;
            checks.compare("as they were before", "1 " + w, array.word(word, 1) + " " + array.word(word, 2));
        }
        Checks.done(array, "set dog where size = 0 or size = 63 : age=9;");
        checks.compare("where it holds", "9 1 1 9",
                array.word(0, 1) + " " + array.word(1, 1) + " " + array.word(62, 1) + " " + array.word(63, 1));
        // The cursor is one of those that are set, and its fields are as before for all of them.
        checks.gives(DOG + "insert dog age=1; insert dog age=2; insert dog age=3; each dog by age where age = 1 { "
                + "set dog : age=age + dog.age; } print sum(dog.age);", "9");
        checks.gives(DOG + "insert dog age=1; insert dog age=2; insert dog age=3; each dog by age where age = 2 { "
                + "set dog : age=dog.age * 10, size=dog.age; print sum(dog.size); } print sum(dog.age);", "6 60");
    }

    private static void leastAndGreatestOfNoneAreZero(Checks checks) {
        checks.gives("kind k f:32; print least(k.f); print greatest(k.f); insert k f=5; print least(k.f where f > 5); "
                + "print greatest(k.f where 0); delete k; print least(k.f); print greatest(k.f where 1);", "0 0 0 0 0 0");
        checks.gives("kind k f:32; insert k f=-5; print least(k.f); print greatest(k.f); print greatest(k.f where f > 0); "
                + "print least(k.f where f = -5);", "-5 -5 0 -5");
    }

    private static void eachGoesInOrder(Checks checks) {
        checks.gives("kind k f:32; insert k f=0; insert k f=2147483647; insert k f=-1; insert k f=-2147483647 - 1; insert k f=1;"
                + "each k by f { print k.f; }", "-2147483648 -1 0 1 2147483647");
        ArrayRecords same = Checks.loaded("kind k a:8, b:8; while 1 { insert k b=v; let v = v + 1; }");
        same.run(20000);
        Checks.done(same, "each k by a { print k.b; }");
        for (int k = 0; k < 64; k++) {
            int number = k;
            checks.is("of words' numbers", k, () -> same.print(number));
        }
        Checks.done(same, "set k : a=255 - b; each k by a { print k.b; }");
        for (int k = 0; k < 64; k++) {
            int number = k;
            checks.is("the least first", 63 - k, () -> same.print(64 + number));
        }
        Checks.done(same, "set k : a=b % 2; each k by a { print k.b; }");
        for (int k = 0; k < 64; k++) {
            int number = k;
            checks.is("both", k < 32 ? 2 * k : 2 * k - 63, () -> same.print(128 + number));
        }
        // A word that is used again counts by its number, not by when its record came.
        checks.gives(DOG + "insert dog age=1, size=1; insert dog age=1, size=2; delete dog where size = 1; insert dog age=1, "
                + "size=3; each dog by age { print dog.size; }", "3 2");
    }

    private static void orderIsAsItIsThen(Checks checks) {
        String three = DOG + "insert dog age=1, size=1; insert dog age=2, size=2; insert dog age=3, size=3;";
        checks.gives(three + "each dog by age { set dog : age=10 - age; print dog.size; }", "1 2 3");
        checks.gives(three + "each dog by age where age > 1 { set dog : age=0; print dog.size; }", "2 3");
        checks.gives(three + "each dog by age where age < 2 { set dog : age=0; print dog.size; }", "1");
        checks.gives(three + "each dog by age { dog.age = 100 - dog.age; print dog.age; }", "99 98 97");
        checks.gives(three + "each dog by age where age > v { let v = v + 1; print dog.size; }", "1 2 3");
        checks.gives(three + "each dog by age { if v < 5 { insert dog age=9, size=9; let v = v + 1; } print dog.size; } "
                + "print count(dog);", "1 2 3 6");
    }

    private static void onlyThoseThatAreStillThere(Checks checks) {
        String three = DOG + "insert dog age=1; insert dog age=2; insert dog age=3;";
        checks.gives(three + "each dog by age { print dog.age; delete dog where age = 1; }", "1 2 3");
        checks.gives(three + "each dog by age { print dog.age; delete dog where age = 2; }", "1 3");
        checks.gives(three + "each dog by age { print dog.age; delete dog where age = 3; }", "1 2");
        checks.gives(three + "each dog by age { print dog.age; delete dog; } print 9;", "1 9");
        checks.gives(three + "each dog by age { print dog.age; each dog by age where age > 1 { remove dog; } } print 9;", "1 9");
        checks.gives(three + "each dog by age { print dog.age; remove dog; } print count(dog);", "1 2 3 0");
        ArrayRecords array = full();
        Checks.done(array, "each dog by age { delete dog where age < 63; print dog.age; }");
        checks.compare("the last one is still there", "0 63", Checks.prints(array));
    }

    private static void notANewOneInItsWord(Checks checks) {
        String two = DOG + "insert dog age=1, size=1; insert dog age=2, size=2;";
        checks.gives(two + "each dog by age { print dog.size; delete dog where age = 2; insert dog age=2, size=2; } "
                + "print count(dog);", "1 2");
        checks.gives(two + "each dog by age { print dog.size; delete dog; insert dog age=1, size=1; insert dog age=2, size=2; }"
                + "print count(dog);", "1 2");
        checks.gives(two + "kind cat f:8; each dog by age { print dog.size; delete dog where age = 2; insert cat f=3; } "
                + "print count(cat);", "1 1");
        // The word has had another kind's record in between.
        checks.gives(two + "kind cat f:8; each dog by age { print dog.size; delete dog where age = 2; insert cat f=3; "
                + "delete cat; insert dog age=2, size=2; } print count(dog);", "1 2");
        checks.gives(two + "each dog by age { remove dog; insert dog age=5, size=7; print dog.size; } print sum(dog.size);",
                "0 0 14");
    }

    private static void nothingHappensWhenItIsGone(Checks checks) {
        String one = DOG + "insert dog age=1, size=1;";
        checks.gives(one + "each dog by age { remove dog; remove dog; print count(dog); }", "0");
        checks.gives(one + "each dog by age { remove dog; dog.age = 5; print dog.age; print dog.size; insert dog size=3; "
                + "dog.age = 6; dog.size = 7; remove dog; print dog.size; } print sum(dog.size); print sum(dog.age);",
                "0 0 0 3 0");
        checks.gives(one + "each dog by age { delete dog; insert dog age=4; each dog by age { dog.size = 2; } print dog.age; "
                + "remove dog; } print sum(dog.age); print sum(dog.size);", "0 4 2");
        checks.gives(one + "each dog by age { remove dog; print count(dog where age = dog.age); insert dog size=9; "
                + "print count(dog where age = dog.age); set dog where size = 9 : size=dog.size + 1; } print sum(dog.size);",
                "0 1 1");
        ArrayRecords array = Checks.done(one);
        Checks.done(array, "each dog by age { remove dog; dog.age = 5; remove dog; }");
        checks.is("they cost nevertheless", 5, array::steps);
    }

    private static void wrongButWithinAnEach(Checks checks) {
        String two = DOG + "kind cat age:8, size:8;";
        checks.wrong(two + "remove ^dog;");
        checks.wrong(two + "^dog.age = 1;");
        checks.wrong(two + "print ^dog.age;");
        checks.wrong(two + "if 1 { remove ^dog; }");
        checks.wrong(two + "each cat by age { remove ^dog; }");
        checks.wrong(two + "each cat by age { ^dog.age = 1; }");
        checks.wrong(two + "each cat by age { print ^dog.age; }");
        checks.wrong(two + "each cat by age { print count(dog where ^dog.age); }");
        checks.wrong(two + "each dog by age { } remove ^dog;");
        checks.wrong(two + "each dog by age { } ^dog.age = 1;");
        checks.wrong(two + "each dog by age { } print ^dog.age;");
        checks.wrong(two + "each dog by age { each cat by age { } remove ^cat;");
        checks.wrong(two + "if 1 { each dog by age { } } else { remove ^dog;");
        checks.wrong(two + "each dog by age where ^dog.age { }");
        checks.wrong(two + "each dog by ^dog { }");
        checks.wrong(two + "insert dog age=^dog.age;");
        checks.wrong(two + "set dog : age=^dog.age;");
        checks.wrong(two + "set dog where ^dog.age : age=1;");
        checks.wrong(two + "delete dog where ^dog.age;");
        checks.right(two + "each dog by age { each cat by age { remove dog; dog.age = cat.age; remove cat; } remove dog; }",
                20 + 5 + 5 + 3 + 8 + 3 + 1 + 3 + 1);
    }

    private static void innermostEachCounts(Checks checks) {
        String two = DOG + "insert dog age=1; insert dog age=2;";
        checks.gives(two + "each dog by age { each dog by age { print dog.age; } print dog.age * 10; }", "1 2 10 1 2 20");
        checks.gives(two + "each dog by age where age = 1 { each dog by age where age = 2 { dog.size = 7; } print dog.size; "
                + "dog.size = 8; } print sum(dog.size);", "0 15");
        checks.gives(two + "each dog by age where age = 1 { each dog by age where age = 2 { remove dog; } print dog.age; } "
                + "print count(dog);", "1 1");
        checks.gives(two + "kind cat f:8; insert cat f=9; each dog by age where age = 2 { each cat by f { each dog by age where "
                + "age = 1 { print dog.age + cat.f; } print dog.age + cat.f; } }", "10 11");
        checks.gives(two + "each dog by age where age = 1 { if 1 { while dog.size < 2 { dog.size = dog.size + 1; } } } "
                + "print sum(dog.size);", "2");
        checks.gives("kind k f:8; insert k f=3;" + Checks.times(10, "each k by f {") + "print k.f;" + Checks.times(10, "}"), "3");
        checks.gives("kind k f:8; insert k f=3;" + Checks.times(9, "each k by f {") + "remove k; }" + "print k.f;"
                + Checks.times(8, "}"), "0");
    }

    private static void whereHasTheCursorsAroundIt(Checks checks) {
        String three = DOG + "insert dog age=1; insert dog age=2; insert dog age=3;";
        checks.gives(three + "each dog by age { each dog by age where age > dog.age { print dog.age; } }", "2 3 3");
        checks.gives(three + "each dog by age { print count(dog where age < dog.age); }", "0 1 2");
        checks.gives(three + "each dog by age where age = 2 { delete dog where age != dog.age; } print sum(dog.age);", "2");
        checks.gives(three + "each dog by age where age = 2 { each dog by age where age != dog.age { each dog by age where "
                + "age = dog.age { print dog.age; } } }", "1 3");
        checks.gives(three + "each dog by age { set dog where age = dog.age : size=dog.age * 2; } print sum(dog.size);", "12");
    }

    private static void fieldsWithinWhereAndSet(Checks checks) {
        String named = "let age = 50; let size = 60;" + DOG + "insert dog age=1, size=2;";
        checks.gives(named + "print count(dog where age = 1); print count(dog where age = 50); print age;", "1 0 50");
        checks.gives(named + "set dog where age = 1 : age=size; print sum(dog.age); delete dog where size = 60; "
                + "print count(dog);", "2 1");
        checks.gives(named + "each dog by age where size = 2 { print age; dog.age = age; insert dog age=size; } "
                + "print sum(dog.age);", "50 110");
        checks.gives(named + "print sum(dog.age where size = 2) + age; print least(dog.size where age = 1) - size;", "51 -58");
        checks.gives(named + "if age = 50 { while size = 60 { let size = 1; } } print size;", "1");
        // The names of dog's fields are variables in a where of cat.
        checks.gives(named + "kind cat f:8; insert cat f=50; print count(cat where f = age);", "1");
    }

    private static void noAggregateWithinWhereAndSet(Checks checks) {
        for (String aggregate : new String[] {"count(dog)", "sum(dog.age)", "least(dog.age)", "greatest(dog.age where 1)"}) {
            checks.wrong(DOG + "delete dog where ^" + aggregate + ";");
            checks.wrong(DOG + "delete dog where 1 + (2 * -^" + aggregate + ");");
            checks.wrong(DOG + "set dog where ^" + aggregate + " : age=1;");
            checks.wrong(DOG + "set dog : age=^" + aggregate + ";");
            checks.wrong(DOG + "set dog : age=1, size=age + ^" + aggregate + ";");
            checks.wrong(DOG + "each dog by age where ^" + aggregate + " { }");
            checks.wrong(DOG + "print count(dog where ^" + aggregate + ");");
            checks.wrong(DOG + "print sum(dog.age where not ^" + aggregate + ");");
            for (String place : new String[] {"print ;", "let v = ;", "insert dog age= ;", "insert dog age=1, size= ;",
                "if  { }", "while  { }", "each dog by age { dog.age = ; }", "print count(dog where 1) + ;"}) {
                int at = place.startsWith("each") ? place.indexOf("= ") + 2 : Math.max(place.indexOf(" ;"), place.indexOf("  ")) + 1;
                ArrayRecords array = Checks.done(DOG);
                String text = place.substring(0, at) + aggregate + place.substring(at);
                checks.is(text, 0, () -> Math.min(0, Checks.feed(array, text).load()));
            }
        }
    }
}
