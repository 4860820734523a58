/** Promise 4: place. In these texts the sign ^, which is not part of them, stands before what is wrong. */
public final class PlaceTest {
    private static final String DOG = "kind dog age:5, size:8;";
    private static final String SIX = "kind k a:1,b:1,c:1,d:1,e:1,f:1;";
    private static final String CAT = DOG + "kind cat dog:4, lives:4;";

    private static final String[] TOKENS = {
        "^A", "print 1; ^\t", "print 1^#", "print 1 ^! 2;", "print 1 ^!", "^\u00ff", "^\u0000", "print ^_;",
        "let ^abcdefghi = 1;", "print ^abcdefghijklmnopqrstuvwxyz;", "^printings 1;", "^Print 1;", "^pRint 1;",
        "print ^2147483648;", "print ^99999999999999999999999999;", "print -^2147483648;",
        "print 1 ^12;", "print 12^abc;", "print 1 < ^= 2;", "print 1 = ^= 2;", "print 1 ^! = 2;",
        "^1;", "^;", "^(1);", "^}", "^{ }", "^where", "^else {}", "^and", "^x", "^x = 3;", "^by",
        "print 1; ^)", "^pri", "^\r",
    };

    private static final String[] ENDS = {
        "print^", "print ^", "print 1^", "print 1 \n ^", "let^", "let v^", "let v =^", "kind^", "kind dog^",
        "kind dog age^", "kind dog age:^", "kind dog age:5^", "kind dog age:5,^", "if^", "if 1^", "if 1 {^",
        "if 1 { }else^", "if 1 { } else {^", "while 1 { ^", "print (^", "print (1^", "print 1 +^", "print not^",
        "print -^", "insert^", "delete^", "set^", "each^", "remove^", "print count^", "print sum(^",
        DOG + "delete dog^", DOG + "delete dog where^", DOG + "set dog^", DOG + "set dog:^", DOG + "set dog:age^",
        DOG + "set dog:age=^", DOG + "set dog:age=1^", DOG + "insert dog^", DOG + "insert dog age^",
        DOG + "insert dog age=1,^", DOG + "each dog^", DOG + "each dog by^", DOG + "each dog by age^",
        DOG + "each dog by age{^", DOG + "each dog by age{dog^", DOG + "each dog by age{dog.^",
        DOG + "print count(dog^", DOG + "print sum(dog^", DOG + "print sum(dog.^", DOG + "print sum(dog.age where^",
    };

    private static final String[] STATEMENTS = {
        "kind ^;", "kind ^kind f:1;", "kind ^1 f:1;", "kind dog ^;", "kind dog ^:5;", "kind dog age ^5;",
        "kind dog age:^x;", "kind dog age:^-1;", "kind dog age:^0;", "kind dog age:^33;", "kind dog age:^2147483647;",
        "kind dog age:5 ^size:8;", "kind dog age:5, ^;", "kind dog age:5, ^age:5;", "kind dog age:5, size:8, ^age:5;",
        "kind dog age:5, ^where:5;", "kind dog a:32,b:32,c:^21;", "kind dog a:32,b:32,c:20,d:^1;",
        "kind dog a:32,b:32,c:19,d:1,e:^1;", "kind dog a:1,b:1,c:1,d:1,e:1,f:1^,g:1;",
        "kind dog a:1,b:1,c:1,d:1,e:1,f:1^,", "kind dog a:1; kind ^dog b:1;", "let v = 1; kind ^v a:1;",
        "print v; kind ^v a:1;", "kind dog a:1; let ^dog = 1;", "kind dog a:1; print ^dog;", "kind dog a:1; print ^dog.a;",
        "kind a f:1;kind b f:1;kind c f:1;kind d f:1;kind e f:1;kind f f:1;kind g f:1;kind ^h f:1;",
        "insert ^dog age=1;" + DOG, "insert ^v;", "let v = 1; insert ^v f=1;", "insert ^insert f=1;", "insert ^;",
        DOG + "insert dog ^;", DOG + "insert dog ^old=1;", DOG + "insert dog ^dog.age=1;", DOG + "insert dog age ^1;",
        DOG + "insert dog age=^;", DOG + "insert dog age=1 ^size=2;", DOG + "insert dog age=1,^;",
        DOG + "insert dog age=1,^age=2;", DOG + "insert dog age=1,size=2,^age=2;", DOG + "insert dog age=1,size=2,^;",
        DOG + "insert dog age=1,size=2,^x=3;", DOG + "insert dog ^where 1;", DOG + "insert dog age=1 ^where 1;",
        DOG + "insert dog age=^dog.size;", DOG + "insert dog age^:5;", DOG + "insert dog age^.size=1;",
        SIX + "insert k a=1,b=1,c=1,d=1,e=1,f=1,^a=1;", SIX + "insert k a=1,b=1,c=1,d=1,e=1,f=1,^g=1;",
        SIX + "set k : a=1,b=1,c=1,d=1,e=1,f=1,^a=1;", SIX + "set k : f=1,e=1,d=1,c=1,b=1,a=1,^;",
        "delete ^;", "delete ^cat;", DOG + "delete dog ^age;", DOG + "delete dog where ^;", DOG + "delete dog ^: age=1;",
        DOG + "delete dog where age ^size;", DOG + "delete ^where 1;", DOG + "delete dog^.age;",
        "set ^cat : f=1;", DOG + "set dog ^;", DOG + "set dog ^age=1;", DOG + "set dog : ^;", DOG + "set dog : age=1, ^age=1;",
        DOG + "set dog : age=1, size=2, ^age=1;", DOG + "set dog where 1 ^age=1;", DOG + "set dog where 1^;",
        DOG + "set dog : ^x=1;", DOG + "set dog : age=1 ^: size=2;", DOG + "set ^: age=1;",
        "let ^1 = 2;", "let ^let = 2;", "let v ^1;", "let v = ^;", "let v = 1 ^let", "let v^.f = 1;", "let v = 1^}",
        "print ^;", "print ^print;", "print 1 ^print 2;", "print 1 ^, 2;", "print 1^}", "print 1^)",
        "each ^cat by f { }", DOG + "each ^by age { }", DOG + "each dog ^age { }", DOG + "each dog by ^old { }",
        DOG + "each dog by ^dog.age { }", DOG + "each dog by age^;", DOG + "each dog by age where ^{ }",
        DOG + "each dog by age where 1^;", DOG + "each dog by age { ^)", DOG + "each dog by age { } ^}",
        DOG + "each dog by age { } ^else { }", DOG + "each ^where by age { }", DOG + "each dog ^{ }",
        "if ^{ }", "if 1 ^print 1;", "if 1 { } else ^if 1 { }", "if 1 { } else { } ^else { }", "if 1 { } print 1; ^else { }",
        "while 0 { } ^else { }", "while ^{ }", "while 1^;", "if 1 { ^else { } }", "if 1 { } else ^;", "if 1 { ^; }",
        "if 1 { } ^}", "if (1 ^{ }", "if 1^) { }",
        "remove ^;", "remove ^dog;", DOG + "remove ^dog;", DOG + "remove ^v;", DOG + "^dog.age = 1;", DOG + "^dog = 1;",
        DOG + "each dog by age { } remove ^dog;", DOG + "each dog by age { } ^dog.age = 1;",
        DOG + "each dog by age { remove dog^.age; }", DOG + "each dog by age { dog ^= 1; }",
        DOG + "each dog by age { dog.^old = 1; }", DOG + "each dog by age { dog.age ^: 1; }",
        DOG + "each dog by age { dog.age = ^; }", DOG + "each dog by age { dog.age = 1 ^}", DOG + "each dog by age { ^age = 1; }",
        DOG + "each dog by age { dog.age = dog^; }", DOG + "each dog by age { remove ^age; }",
        CAT + "each dog by age { remove ^cat; }", CAT + "each dog by age { ^cat.lives = 1; }",
        CAT + "each dog by age { print ^cat.lives; }", CAT + "each dog by age where ^cat.lives { }",
    };

    private static final String[] EXPRESSIONS = {
        "print 1 = 2 ^= 3;", "print 1 < 2 ^> 3;", "print 1 <= 2 ^!= 3;", "print not 1 = 2 ^= 3;",
        "print 1 + 2 = 3 - 4 ^= 5;", "print (1 = 2) = 3 ^>= 4;", "print (1 = 2 ^= 3);",
        "print 1 = ^not 2;", "print 1 + ^not 2;", "print 1 * ^not 2;", "print - ^not 2;", "print not - ^not 2;",
        "print 1 ^not 2;", "print ^+ 1;", "print ^* 1;", "print ^and 1;", "print 1 and ^or 2;", "print 1 + ^* 2;",
        "print 1 or ^and 2;", "print 1 = ^;", "print (^);", "print (1^;", "print (1^, 2);",
        "print 1^(2);", "print (1)^(2);", "print v ^v;", "print v^.age;", "print v^(1);", "print 1^.2;", "print ^where;",
        "print 1 ^where 1;", "print ^by;", "print ^{1};", "print 1 ^: 2;",
        "print count ^dog;", "print count(^1);", "print count(^v);", "print count(^);", DOG + "print count(dog^.age);",
        DOG + "print count(dog ^age);", DOG + "print count(dog where ^);", DOG + "print count(dog where 1^;",
        DOG + "print sum(dog^);", DOG + "print sum(dog ^where 1);", DOG + "print sum(dog.^old);", DOG + "print sum(^age);",
        DOG + "print least(dog^,age);", DOG + "print greatest(dog.age^.age);", DOG + "print greatest(dog.age ^+ 1);",
        DOG + "print count(dog) ^where 1;", DOG + "print count(dog^, dog);",
        DOG + "print ^dog.age;", DOG + "print count(dog) + ^dog.age;", DOG + "print count(dog where ^dog.age);",
        DOG + "print age; print age^.age;", DOG + "delete dog where ^count(dog);", DOG + "delete dog where age = ^sum(dog.age);",
        DOG + "set dog : age = ^least(dog.age);", DOG + "set dog where (^greatest(dog.age)) : age = 1;",
        DOG + "each dog by age where ^count(dog) { }", DOG + "print count(dog where ^count(dog));",
        DOG + "print count(dog where 1 + (^sum(dog.age)));", DOG + "each dog by age where ^dog.age { }",
        DOG + "delete dog where age^.age;", DOG + "each dog by age { delete dog where age^.age; }",
        CAT + "each dog by age { delete cat where dog^.age = lives; }", CAT + "delete cat where ^cat.lives;",
        CAT + "each dog by age { print dog.^dog; }", CAT + "each cat by dog { print cat.^age; }",
        CAT + "each cat by dog { insert cat dog=^dog; }",
    };

    private static final String[] DEPTHS = {
        "print ((((((((((^(1", "print ((((((((((^(", "print -((((((((((^(",
        "print " + "1+(".repeat(10) + "1+^(1", Checks.times(10, "if 1 {") + "if 1 ^{",
        Checks.times(10, "if 1 {") + "print ^(1);", Checks.times(9, "if 1 {") + "print (^(1));",
        Checks.times(9, "if 1 {") + "while (1) { print ^(1);", DOG + Checks.times(10, "if 1 {") + "print count^(dog);",
        DOG + Checks.times(9, "if 1 {") + "print count(dog where ^(1));", Checks.times(10, "if 1 {") + "} else { print ^(",
        DOG + Checks.times(10, "each dog by age {") + "each dog by age ^{",
        DOG + "print ((((((((((sum^(dog.age", DOG + "print (((((((((sum(dog.age where ^(1",
        Checks.times(10, "if 1 {") + Checks.times(10, "}") + "^}", "print ((((((((((1))))))))))^);",
        DOG + "delete dog where ((((((((((^(", DOG + "set dog : age = ((((((((((^(", DOG + "insert dog age = ((((((((((^(",
        DOG + Checks.times(10, "if 1 {") + "each dog by age where ^(1)", "let v = ((((((((((^(",
    };

    private static final String[] RIGHT = {
        "", "print 1;", DOG + "print age; let size = 1; let lives = age;", CAT + "delete cat where dog = lives and age;",
        CAT + "each dog by age { set cat : lives = dog, dog = lives + age; }", "kind a a:1; each a by a { a.a = a.a; }",
        "kind a a:1; each a by a { each a by a where a { remove a; } remove a; }", "let v = v; let v = w;",
        DOG + "each dog by age { each dog by age where dog.size = size { } }", DOG + "if count(dog) { } else { }",
        DOG + "while sum(dog.age where age != 1) < 3 { }", DOG + "insert dog age=count(dog), size=least(dog.age);",
        DOG + "each dog by age { dog.age = count(dog where age = dog.age) + dog.size; }", "if 1 { } if 1 { } else { }",
        DOG + "print count(dog where age and not size = 1) and not count(dog);", "print 1 and not 2 or not not 3;",
        DOG + "print sum(dog.age where age) + age + count(dog);", "if 1 { kind k f:1; } delete k;", "print - - 1 - - - 1;",
        DOG + "each dog by age { if 1 { while 0 { remove dog; dog.age = 1; } } else { remove dog; } }",
    };

    public static void main(String[] arguments) {
        Checks checks = new Checks("PlaceTest");
        for (String[] row : new String[][] {TOKENS, ENDS, STATEMENTS, EXPRESSIONS, DEPTHS}) {
            for (String text : row) {
                checks.wrong(text);
            }
        }
        for (String text : RIGHT) {
            ArrayRecords array = Checks.loaded("");
            checks.is(text + " has tokens", 0, () -> Math.min(0, Checks.feed(array, text).load()));
            checks.is(text, -1, array::place);
        }
        latest(checks);
        checks.end();
    }

    private static void latest(Checks checks) {
        ArrayRecords array = new ArrayRecords();
        checks.is("no load", -1, array::place);
        Checks.feed(array, "print 1 1");
        checks.is("feeding is no load", -1, array::place);
        checks.fails("wrong", IllegalArgumentException.class, array::load);
        checks.is("wrong", 8, array::place);
        checks.fails("run", IllegalStateException.class, () -> array.run(1));
        checks.is("wrong still", 8, array::place);
        Checks.feed(array, "print 1;").load();
        checks.is("right", -1, array::place);
        Checks.feed(array, "}");
        checks.fails("wrong", IllegalArgumentException.class, array::load);
        checks.is("wrong", 0, array::place);
        Checks.feed(array, Checks.times(51, "print 1;"));
        checks.fails("too many", IllegalArgumentException.class, array::load);
        checks.is("right up to there", -1, array::place);
    }
}
