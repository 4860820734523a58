/** The boundary cases of kinds, their fields and the names that are told in a program. */
public final class KindsBoundaryTest {
    private static final String DOG = "kind dog age:5, size:8;";

    public static void main(String[] arguments) {
        Checks checks = new Checks("KindsBoundaryTest");
        oneToSixFields(checks);
        oneToThirtyTwoBits(checks);
        atMostEightyFourBitsTogether(checks);
        nameIsNoneOfAKindOrVariable(checks);
        fieldsNamesAreDifferent(checks);
        kindIsThereFromHereOn(checks);
        kindIsThereWhenTheProgramIsLoaded(checks);
        fieldsAreToldAtMostOnce(checks);
        oneFieldAtLeastIsTold(checks);
        othersAreZero(checks);
        fieldsOfOtherKindsAreNone(checks);
        checks.end();
    }

    /** A kind with so many fields of these bits, named a, b, .. */
    private static String kind(int fields, int bits) {
        StringBuilder text = new StringBuilder("kind k ");
        for (int f = 0; f < fields; f++) {
            text.append(f == 0 ? "" : ",").append((char) ('a' + f)).append(':').append(bits);
        }
        return text.toString();
    }

    private static void oneToSixFields(Checks checks) {
        checks.wrong("kind k ^;");
        checks.wrong("kind k^");
        for (int fields = 1; fields <= 6; fields++) {
            checks.right(kind(fields, 1) + ";", 2 + 4 * fields);
            checks.wrong(kind(fields, 1) + "^");
            checks.wrong(kind(fields, 1) + (fields < 6 ? ",^;" : "^,;"));
        }
        checks.wrong(kind(6, 1) + "^,g:1;");
        checks.wrong(kind(6, 1) + "^,a:1;");
        checks.wrong(kind(6, 1) + "^,g:99;");
        checks.wrong(kind(6, 1) + "^,");
        checks.wrong(kind(6, 14) + "^,g:1;");
        ArrayRecords array = Checks.done(kind(6, 8) + "; insert k a=1, b=2, c=3, d=4, e=5, f=6;");
        for (int f = 1; f <= 6; f++) {
            int field = f;
            checks.is("field " + f, f, () -> array.word(0, field));
        }
    }

    private static void oneToThirtyTwoBits(Checks checks) {
        for (int bits = 1; bits <= 32; bits++) {
            checks.right("kind k f:" + bits + ";", 6);
            checks.right("kind k f:000" + bits + ", g:" + bits + ";", 10);
        }
        for (String bits : new String[] {"0", "00", "33", "34", "64", "65", "84", "100", "256", "257", "2147483647"}) {
            checks.wrong("kind k f:^" + bits + ";");
            checks.wrong("kind k f:^" + bits + ", g:1;");
            checks.wrong("kind k f:1, g:^" + bits + ";");
            checks.wrong("kind k f:^" + bits);
        }
        checks.wrong("kind k f:^-1;");
        checks.wrong("kind k f:^(1);");
        checks.wrong("kind k f:^v;");
        checks.wrong("kind k f^;");
        checks.wrong("kind k f^=1;");
        checks.wrong("kind k f:1 ^+ 1;");
    }

    private static void atMostEightyFourBitsTogether(Checks checks) {
        checks.right("kind k a:32, b:32, c:20;", 14);
        checks.wrong("kind k a:32, b:32, c:^21;");
        checks.wrong("kind k a:32, b:32, c:^32;");
        checks.wrong("kind k a:20, b:32, c:^33;");
        checks.right(kind(6, 14) + ";", 26);
        checks.right(kind(5, 14) + ",f:14;", 26);
        checks.wrong(kind(5, 14) + ",f:^15;");
        checks.right(kind(5, 15) + ",f:9;", 26);
        checks.wrong(kind(5, 15) + ",f:^10;");
        checks.right(kind(5, 16) + ",f:4;", 26);
        checks.wrong(kind(5, 16) + ",f:^5;");
        checks.wrong(kind(4, 20) + ",e:^5;");
        checks.right(kind(4, 20) + ",e:4;", 22);
        checks.wrong(kind(4, 20) + ",e:4,f:^1;");
        checks.wrong(kind(4, 21) + ",e:^1;");
        checks.wrong("kind k a:32, b:32, c:20, d:^1;");
        checks.right("kind k a:32, b:32, c:20; kind l a:32, b:32, c:20;", 28);
    }

    private static void nameIsNoneOfAKindOrVariable(Checks checks) {
        checks.wrong(DOG + "kind ^dog f:1;");
        checks.wrong("let v = 1; kind ^v f:1;");
        checks.wrong("print v; kind ^v f:1;");
        checks.wrong(DOG + "delete dog where v; kind ^v f:1;");
        checks.wrong(DOG + "let ^dog = 1;");
        checks.wrong(DOG + "print ^dog;");
        checks.wrong(DOG + "if ^dog { }");
        checks.wrong(DOG + "while ^dog { }");
        checks.wrong(DOG + "insert dog age=^dog;");
        checks.right(DOG + "kind age f:1; kind size age:1, size:1;", 10 + 6 + 10);
        checks.right(DOG + "let age = 1; let size = age; print age;", 10 + 5 + 5 + 3);
        ArrayRecords array = Checks.done(DOG + "let v = 1;");
        checks.wrong(array, "kind ^dog f:1;");
        checks.wrong(array, "kind ^v f:1;");
        checks.wrong(array, "let ^dog = 1;");
        checks.wrong(array, "print ^dog;");
        checks.right(array, "kind cat dog:1, v:1, cat:1;", 14);
    }

    private static void fieldsNamesAreDifferent(Checks checks) {
        checks.wrong("kind k f:1, ^f:1;");
        checks.wrong("kind k f:1, ^f:99;");
        checks.wrong("kind k a:1, b:1, c:1, d:1, e:1, ^a:1;");
        checks.wrong("kind k a:1, b:1, c:1, d:1, e:1, ^e:1;");
        checks.wrong("kind k a:1, b:1, c:1, d:1, ^c:1, f:1;");
        checks.right("kind k k:1; kind l k:1, l:1;", 16);
        checks.right("let f = 1; kind k f:1;", 11);
    }

    private static void kindIsThereFromHereOn(Checks checks) {
        checks.wrong("insert ^dog age=1; " + DOG);
        checks.wrong("delete ^dog; " + DOG);
        checks.wrong("print count(^dog); " + DOG);
        checks.wrong("print dog; kind ^dog age:5;");
        checks.wrong("let dog = 1; kind ^dog age:5;");
        checks.wrong("each ^dog by age { } " + DOG);
        checks.right(DOG + "insert dog age=1;", 16);
        checks.right("if 0 { " + DOG + "} insert dog age=1;", 20);
        checks.right("while 0 { if 0 { } else { " + DOG + " insert dog age=1; } }", 27);
        checks.gives("if 0 { " + DOG + "} insert dog age=7; print sum(dog.age);", "7");
        checks.gives("while v < 3 { kind k f:8; insert k f=v; let v = v + 1; } print sum(k.f);", "3");
    }

    private static void kindIsThereWhenTheProgramIsLoaded(Checks checks) {
        ArrayRecords array = Checks.loaded(DOG);
        checks.right(array, "insert dog age=9;", 6);
        checks.is("run", 0, () -> array.run(1));
        checks.is("a record of the first kind", 1, () -> array.word(0, 0));
        checks.is("its field", 9, () -> array.word(0, 1));
    }

    private static void fieldsAreToldAtMostOnce(Checks checks) {
        String six = kind(6, 8) + ";";
        String all = "a=1,b=2,c=3,d=4,e=5,f=6";
        for (String statement : new String[] {"insert k ", "set k : ", "set k where 1 : ", "set k where a = 1 : "}) {
            checks.wrong(six + statement + "a=1,^a=2;");
            checks.wrong(six + statement + "a=1,b=2,^a=2;");
            checks.wrong(six + statement + "a=1,^a");
            for (char field = 'a'; field <= 'f'; field++) {
                checks.wrong(six + statement + all + ",^" + field + "=1;");
            }
            checks.wrong(six + statement + all + ",^g=1;");
            checks.wrong(six + statement + all + ",^;");
            checks.wrong(six + statement + all + ",^");
            checks.wrong(six + statement + all + "^");
            int head = statement.startsWith("insert") ? 2 : statement.contains("=") ? 7 : statement.contains("1") ? 5 : 3;
            checks.right(six + statement + all + ";", 26 + head + 24);
            checks.right(six + statement + "f=6,e=5,d=4,c=3,b=2,a=1;", 26 + head + 24);
        }
        checks.right(six + "insert k a=1; insert k a=1; set k : a=1; set k : a=2;", 26 + 6 + 6 + 7 + 7);
    }

    private static void oneFieldAtLeastIsTold(Checks checks) {
        checks.wrong(DOG + "insert dog^;");
        checks.wrong(DOG + "insert dog ^");
        checks.wrong(DOG + "insert dog ^,age=1;");
        checks.wrong(DOG + "set dog ^;");
        checks.wrong(DOG + "set dog :^;");
        checks.wrong(DOG + "set dog where 1^;");
        checks.wrong(DOG + "set dog where 1:^;");
        checks.wrong(DOG + "set dog : ^,age=1;");
        checks.right(DOG + "insert dog age=1; set dog : age=1;", 10 + 6 + 7);
    }

    private static void othersAreZero(Checks checks) {
        for (char told = 'a'; told <= 'f'; told++) {
            // The word's earlier record had ones everywhere.
            ArrayRecords array = Checks.done(kind(6, 14) + ";insert k a=-1,b=-1,c=-1,d=-1,e=-1,f=-1; delete k;");
            Checks.done(array, "insert k " + told + "=5;");
            for (int f = 1; f <= 6; f++) {
                int field = f;
                checks.is("field " + f, f == told - 'a' + 1 ? 5 : 0, () -> array.word(0, field));
            }
            Checks.done(array, "set k : a=1,b=1,c=1,d=1,e=1,f=1; set k : " + told + "=7;");
            for (int f = 1; f <= 6; f++) {
                int field = f;
                checks.is("set leaves field " + f, f == told - 'a' + 1 ? 7 : 1, () -> array.word(0, field));
            }
        }
    }

    private static void fieldsOfOtherKindsAreNone(Checks checks) {
        String two = "kind a p:8; kind b q:8, p:4; ";
        checks.wrong(two + "insert a ^q=1;");
        checks.wrong(two + "set a : ^q=1;");
        checks.wrong(two + "each a by ^q { }");
        checks.wrong(two + "print sum(a.^q);");
        checks.wrong(two + "each a by p { a.^q = 1; }");
        checks.wrong(two + "each a by p { print a.^q; }");
        // In a where of a the name q is a variable.
        checks.gives(two + "let q = 5; insert a p=5; insert b q=6, p=6; print count(a where p = q); print count(b where p = q);"
                + "print q;", "1 1 5");
        ArrayRecords array = Checks.done(two + "insert b q=300, p=17; insert a p=300;");
        checks.compare("each kind has its own bits", "44 1 44 0", array.word(0, 1) + " " + array.word(0, 2) + " "
                + array.word(1, 1) + " " + array.word(1, 2));
    }
}
