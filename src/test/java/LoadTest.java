/** Promise 3: load. */
public final class LoadTest {
    private static final String DOG = "kind dog age:5, size:8;";

    public static void main(String[] arguments) {
        Checks checks = new Checks("LoadTest");
        counts(checks);
        tooMany(checks);
        inPlaceOfWhatWas(checks);
        takenBack(checks);
        stays(checks);
        limits(checks);
        behindWrongOnes(checks);
        behindWrongExpressions(checks);
        often(checks);
        checks.end();
    }

    private static void counts(Checks checks) {
        checks.right("", 0);
        checks.right(" \n ", 0);
        checks.right("print 1;", 3);
        checks.right("print1;print(1);", 8);
        checks.right("\n print\n1 ; \n", 3);
        checks.right("print 1!=2;print 1<=2;print 1>=2;", 15);
        checks.right("print 1<-2;print--1;", 11);
        checks.right("print 2147483647; print 0000000000000000000007;", 6);
        checks.right("let abcdefgh=1;", 5);
        checks.right("let kinds=1; let in=2; let summ=3;", 15);
        checks.right("if 1{}else{}while 0{}", 11);
        checks.right(DOG, 10);
        checks.right(DOG + "insert dog age=1,size=2;delete dog;delete dog where 1;", 10 + 10 + 3 + 5);
        checks.right(DOG + "set dog:age=1;set dog where age:age=1,size=2;", 10 + 7 + 13);
        checks.right(DOG + "each dog by age{dog.age=1;remove dog;}", 10 + 5 + 6 + 3 + 1);
        checks.right(DOG + "print count(dog)+sum(dog.age)+least(dog.age where 1);", 10 + 1 + 4 + 1 + 6 + 1 + 8 + 1);
        checks.right("if 1 { kind cat f:1; } insert cat f=1;", 16);
        checks.right("kind a a:32,b:32,c:20;kind b a:1,b:1,c:1,d:1,e:1,f:1;", 14 + 26);
        checks.right("print ((((((((((1))))))))));", 23);
        checks.right(Checks.times(9, "if 1{") + "print (1);" + Checks.times(9, "}"), 41);
        checks.right(Checks.times(10, "if 1{") + Checks.times(10, "}"), 40);
        checks.right("print not not not - - - 1;", 9);
        checks.right("print (1 = 2) = 3 and 4 < 5 or not 6 > 7;", 18);
    }

    private static void tooMany(Checks checks) {
        checks.right(Checks.times(50, "print 1;"), 150);
        checks.right(Checks.times(50, "print 1;") + "  \n ", 150);
        for (String more : new String[] {"print", "}", "!", "A", "ninelette", "9999999999", "\u0000", "1"}) {
            tooMany(checks, Checks.times(50, "print 1;"), more);
            tooMany(checks, "print " + Checks.times(148, "-") + "1", more);
        }
        ArrayRecords array = new ArrayRecords();
        Checks.feed(array, "print ;" + Checks.times(50, "print 1;"));
        checks.fails("too many, and wrong before", IllegalArgumentException.class, array::load);
        checks.is("wrong before", 6, array::place);
        Checks.feed(array, "print " + Checks.times(148, "-") + "1");
        checks.fails("150 tokens, and one is missing", IllegalArgumentException.class, array::load);
        checks.is("the length", 155, array::place);
    }

    private static void tooMany(Checks checks, String before, String more) {
        ArrayRecords array = Checks.loaded("print 1;");
        Checks.feed(array, before + " " + more + " ");
        checks.fails("151st token " + more, IllegalArgumentException.class, array::load);
        checks.is("right up to there, " + more, -1, array::place);
        checks.fails("no program", IllegalStateException.class, () -> array.run(1));
    }

    private static void inPlaceOfWhatWas(Checks checks) {
        ArrayRecords array = Checks.done("print 1;");
        Checks.done(array, "print 2;");
        checks.compare("the new program", "1 2", Checks.prints(array));
        Checks.feed(array, "print 3");
        checks.fails("a wrong program", IllegalArgumentException.class, array::load);
        checks.fails("no program", IllegalStateException.class, () -> array.run(5));
        checks.is("nothing was printed", 2, array::printed);
        checks.is("an empty one", 0, array::load);
        checks.is("that runs", 0, () -> array.run(5));
        checks.is("and takes nothing", 0, array::steps);
    }

    private static void takenBack(Checks checks) {
        ArrayRecords array = Checks.done(DOG + "let v = 7;");
        Checks.feed(array, "kind cat f:1; let w = 1; let v = 8; print x; print;");
        checks.fails("wrong", IllegalArgumentException.class, array::load);
        Checks.done(array, "print v;");
        checks.compare("nothing was run", "7", Checks.prints(array));
        Checks.feed(array, "delete cat;");
        checks.fails("no new kind", IllegalArgumentException.class, array::load);
        checks.is("its name", 7, array::place);
        checks.is("no new variables", 16, () -> Checks.feed(array, "kind w f:1; kind x f:1, g:2;").load());
        checks.is("the kind's name is free", 6, () -> Checks.feed(array, "kind cat g:1;").load());
        Checks.done(array, "insert cat g=1;");
        checks.is("it is the fourth", 4, () -> array.word(0, 0));
        tooManyTakesBack(checks);
    }

    private static void tooManyTakesBack(Checks checks) {
        ArrayRecords array = new ArrayRecords();
        Checks.feed(array, "kind k f:1; let v = 1;" + Checks.times(47, "print 1;"));
        checks.fails("152 tokens", IllegalArgumentException.class, array::load);
        checks.is("right up to there", -1, array::place);
        checks.is("neither kind nor variable", 12, () -> Checks.feed(array, "kind v f:1; kind k g:2;").load());
    }

    private static void stays(Checks checks) {
        ArrayRecords array = Checks.done(DOG + "insert dog age=3; let v = 5;");
        Checks.done(array, "print sum(dog.age) + v; insert dog age=v;");
        checks.compare("records and variables stay", "8", Checks.prints(array));
        checks.is("records", 2, array::records);
        Checks.feed(array, "kind dog f:1;");
        checks.fails("the kind is there", IllegalArgumentException.class, array::load);
        Checks.feed(array, "kind v f:1;");
        checks.fails("the variable is there", IllegalArgumentException.class, array::load);
        // A program that is loaded, but not run, makes its kinds and variables.
        Checks.feed(array, "kind cat f:1; print w;").load();
        Checks.feed(array, "kind w f:1;");
        checks.fails("the variable was read", IllegalArgumentException.class, array::load);
        checks.is("the kind was made", 6, () -> Checks.feed(array, "insert cat f=1;").load());
    }

    private static void behindWrongOnes(Checks checks) {
        ArrayRecords array = Checks.done(DOG);
        for (String text : new String[] {"if 1 { if 1 {", "print ((((1", "each dog by age { print (1 + 2 * (",
            "delete dog where age + (1", "print not - count(dog where (", "set dog : age = not", "print 1 + 2 * - 3 3"}) {
            checks.fails(text, IllegalArgumentException.class, () -> Checks.feed(array, text).load());
            checks.fails("no each is open", IllegalArgumentException.class, () -> Checks.feed(array, "remove dog;").load());
            checks.fails("no block is open", IllegalArgumentException.class, () -> Checks.feed(array, "}").load());
            checks.fails("no bracket is open", IllegalArgumentException.class,
                    () -> Checks.feed(array, "print 1);").load());
            checks.is("ten brackets", 23, () -> Checks.feed(array, "print ((((((((((1))))))))));").load());
            checks.is("ten blocks", 40,
                    () -> Checks.feed(array, Checks.times(10, "if 1{") + Checks.times(10, "}")).load());
            Checks.done(array, "print count(dog) + 7;");
            checks.is("it runs", 7, () -> array.print(array.printed() - 1));
        }
        // What an earlier text left behind on the tape is no part of a shorter one.
        for (String[] texts : new String[][] {{"print 1234;", "print 1"}, {"printer;", "print"}, {"print 1<=2;", "print 1<"}}) {
            Checks.answer(() -> Checks.feed(array, texts[0]).load());
            checks.fails(texts[1], IllegalArgumentException.class, () -> Checks.feed(array, texts[1]).load());
            checks.is(texts[1], texts[1].length(), array::place);
        }
    }

    /** What waited for its right side in a wrong program is no part of the next one. */
    private static void behindWrongExpressions(Checks checks) {
        for (String text : new String[] {"print not", "print -", "print 1 +", "print 2 *", "print 1 =", "print 1 or", "print 1 and",
            "print (", "print 1 + (2 *", "print count(dog where not", "delete dog where -", "let v = 3 -;", "if not {"}) {
            for (String[] next : new String[][] {{"print 5;", "5"}, {"print not 5;", "0"}, {"print 3 = 3;", "1"},
                {"print (1 + 2) * 3;", "9"}, {"print count(dog where not age) + 4;", "4"}}) {
                ArrayRecords array = Checks.done(DOG);
                checks.fails(text, IllegalArgumentException.class, () -> Checks.feed(array, text).load());
                checks.compare(text + " and then " + next[0], next[1], Checks.answer(() -> {
                    Checks.done(array, next[0]);
                    return array.print(0);
                }));
            }
        }
    }

    private static void often(Checks checks) {
        ArrayRecords array = Checks.done("kind k a:1,b:1,c:1,d:1,e:1,f:1;");
        String puts = "k a=1,b=1,c=1,d=1,e=1,f=1;";
        for (int k = 0; k < 60; k++) {
            String right = "insert " + puts + "delete k;";
            String wrong = "insert " + puts + "}";
            checks.is("load " + k, 29, () -> Checks.feed(array, right).load());
            checks.is("run " + k, 0, () -> array.run(9));
            checks.fails("wrong " + k, IllegalArgumentException.class, () -> Checks.feed(array, wrong).load());
        }
    }

    private static void limits(Checks checks) {
        ArrayRecords array = new ArrayRecords();
        for (char c = 'a'; c <= 'g'; c++) {
            Checks.feed(array, "kind " + c + " f:1;").load();
        }
        Checks.feed(array, "kind h f:1;");
        checks.fails("an eighth kind", IllegalArgumentException.class, array::load);
        checks.is("at the name", 5, array::place);
        for (char c = 'h'; c < 'h' + 18; c++) {
            Checks.feed(array, "let v" + c + " = 1;").load();
        }
        checks.is("20 variables", 7, () -> Checks.feed(array, "print x + y - vh;").load());
        Checks.feed(array, "print x + z;");
        checks.fails("a 21st variable", IllegalArgumentException.class, array::load);
        checks.is("at the name", 10, array::place);
        Checks.feed(array, "let z = 1;");
        checks.fails("a 21st variable", IllegalArgumentException.class, array::load);
        checks.is("at the name", 4, array::place);
        checks.is("those that are there", 5, () -> Checks.feed(array, "let x = y;").load());
    }
}
