/** The boundary cases of the limits: tape, tokens, depth, kinds, variables, numbers kept, calls. */
public final class LimitsBoundaryTest {
    private static final String DOG = "kind dog age:5, size:8;";

    public static void main(String[] arguments) {
        Checks checks = new Checks("LimitsBoundaryTest");
        tapeHasAtMost500Bytes(checks);
        programHasAtMost150Tokens(checks);
        whatStandsBehindIsTooManyWhateverItIs(checks);
        wrongBeforeTooMany(checks);
        tenBracketsWithinOneAnother(checks);
        closedBracketsDoNotCount(checks);
        anyNumberOfNotAndMinus(checks);
        oneComparisonWithoutBrackets(checks);
        atMostSevenKinds(checks);
        atMostTwentyVariables(checks);
        latest64NumbersAreKept(checks);
        manyNumbers(checks);
        calls512(checks);
        checks.end();
    }

    private static void tapeHasAtMost500Bytes(Checks checks) {
        for (int n = 1; n <= 8; n++) {
            ArrayRecords array = new ArrayRecords();
            int bytes = n;
            int room = 500 / n * n;
            for (int fed = n; fed <= room; fed += n) {
                checks.is(n + " at a time", fed, () -> array.feed(0x2020202020202020L, bytes));
            }
            for (int more = 1; more <= 8; more++) {
                int rest = more;
                if (room + more > 500) {
                    checks.fails(room + " and " + more, IllegalStateException.class, () -> array.feed(0x3b3b3b3b3b3b3b3bL, rest));
                }
            }
            if (room < 500) {
                checks.is("the rest", 500, () -> array.feed(0x2020202020202020L, 500 - room));
            }
            checks.fails("one more", IllegalStateException.class, () -> array.feed(';', 1));
            checks.is("what was refused is not there", 0, array::load);
            checks.is("there is room again", 8, () -> array.feed(0, 8));
        }
        String text = "print 1" + " ".repeat(492) + ";";
        checks.right(text, 3);
        checks.wrong(" ".repeat(499) + "^;");
        checks.right(" ".repeat(500), 0);
        checks.wrong("print 1" + " ".repeat(493) + "^");
        checks.wrong("^" + "a".repeat(500));
        checks.wrong("^" + "9".repeat(500));
    }

    private static void programHasAtMost150Tokens(Checks checks) {
        for (int n = 1; n <= 147; n++) {
            checks.right("print " + "-".repeat(n) + "1;", n + 3);
        }
        for (int n = 148; n <= 155; n++) {
            tooMany(checks, new ArrayRecords(), "print " + "-".repeat(n) + "1;");
        }
        checks.right(Checks.times(50, "print 1;") + " ".repeat(100), 150);
        checks.right(Checks.times(50, "print 1;") + "\n".repeat(100), 150);
        checks.right(Checks.times(37, "if 1{}"), 148);
        tooMany(checks, new ArrayRecords(), Checks.times(37, "if 1{}") + "print 1;");
        tooMany(checks, new ArrayRecords(), Checks.times(62, "print 1;"));
        checks.right(Checks.times(150, " ") + "print 1;" + Checks.times(150, "\n"), 3);
    }

    private static void tooMany(Checks checks, ArrayRecords array, String text) {
        checks.fails("load " + text, IllegalArgumentException.class, () -> Checks.feed(array, text).load());
        checks.is("right up to there " + text, -1, array::place);
        checks.fails("no program", IllegalStateException.class, () -> array.run(20000));
        checks.is("the tape is used up", 1, () -> array.feed(' ', 1));
        checks.is("an empty one", 0, array::load);
    }

    private static void whatStandsBehindIsTooManyWhateverItIs(Checks checks) {
        String full = Checks.times(50, "print 1;");
        String open = "print " + "-".repeat(148) + "1";
        String early = "if 1 { let " + "v = 1; let ".repeat(29) + "v";
        checks.wrong(open + "^");
        for (int b = 0; b < 256; b++) {
            if (b != ' ' && b != '\n') {
                ArrayRecords array = Checks.loaded(DOG + "print 1;");
                tooMany(checks, array, full + (char) b);
                tooMany(checks, array, full + "\n " + (char) b + " ");
                // Digits and the last number are one token.
                tooMany(checks, array, open + " " + (char) b);
                tooMany(checks, array, early + " " + (char) b);
            }
        }
        for (String more : new String[] {"abcdefghi", "2147483648", "print 1;", "}", "kind kind", "!="}) {
            tooMany(checks, new ArrayRecords(), full + more);
            tooMany(checks, new ArrayRecords(), open + " " + more);
        }
    }

    private static void wrongBeforeTooMany(Checks checks) {
        String many = Checks.times(50, "print 1;");
        checks.wrong("^#" + many);
        checks.wrong("^;" + many);
        checks.wrong("print ^;" + many);
        checks.wrong(Checks.times(49, "print 1;") + "print 1^print 1;");
        checks.wrong(Checks.times(49, "print 1;") + "print 1^# 1;");
        checks.wrong(Checks.times(49, "print 1;") + "print 1^}");
        checks.wrong(Checks.times(49, "print 1;") + "print ^; print 1;");
        checks.wrong(Checks.times(49, "print 1;") + "^} print 1; print 1;");
        // The wrong one is the 150th token itself, or is missing behind it.
        checks.wrong("if 1 {" + Checks.times(49, "print 1;") + "^");
        checks.wrong("if " + Checks.times(146, "-") + "1 { ^) ; ;");
        checks.wrong("if " + Checks.times(147, "-") + "1 ^) ; ;");
        tooMany(checks, new ArrayRecords(), "if " + Checks.times(147, "-") + "1 { ) ; ;");
    }

    /** Blocks and brackets, so many of each, around what stands within. */
    private static String within(int blocks, String block, int brackets, String text) {
        return Checks.times(blocks, block) + "print " + "(".repeat(brackets) + text;
    }

    private static void tenBracketsWithinOneAnother(Checks checks) {
        for (String block : new String[] {"if 1 {", "while 1 {", "each dog by age {", "if 1 { } else {"}) {
            for (int blocks = 0; blocks <= 10; blocks++) {
                int left = 10 - blocks;
                // Right up to there: only the end is missing.
                checks.wrong(DOG + within(blocks, block, left, "1^"));
                checks.wrong(DOG + within(blocks, block, left, "^(1"));
                checks.wrong(DOG + within(blocks, block, left, "count^(dog"));
                checks.wrong(DOG + within(blocks, block, left, "1 + sum^(dog.age"));
                checks.wrong(DOG + within(blocks, block, left, "-least^(dog.age"));
                checks.wrong(DOG + within(blocks, block, left, "not greatest^(dog.age"));
                if (left > 0) {
                    checks.wrong(DOG + within(blocks, block, left - 1, "count(dog^"));
                    checks.wrong(DOG + within(blocks, block, left - 1, "sum(dog.age where age^"));
                    checks.wrong(DOG + within(blocks, block, left - 1, "sum(dog.age where ^(age"));
                    checks.wrong(DOG + Checks.times(blocks, block) + "if 1 {^");
                } else {
                    checks.wrong(DOG + Checks.times(blocks, block) + "if 1 ^{");
                    checks.wrong(DOG + Checks.times(blocks, block) + "while 1 ^{");
                    checks.wrong(DOG + Checks.times(blocks, block) + "each dog by age ^{");
                    checks.wrong(DOG + Checks.times(blocks, block) + "delete dog where ^(1);");
                    checks.wrong(DOG + Checks.times(blocks, block) + "set dog where ^(1);");
                    checks.wrong(DOG + Checks.times(blocks, block) + "set dog : age=^(1);");
                    checks.wrong(DOG + Checks.times(blocks, block) + "insert dog age=^(1);");
                    checks.wrong(DOG + Checks.times(blocks, block) + "let v = ^(1);");
                    checks.wrong(DOG + Checks.times(blocks, block) + "if ^(1) {");
                }
            }
        }
        checks.right("print ((((((((((1))))))))));", 23);
        checks.wrong("print ((((((((((^(1)))))))))));");
        checks.wrong("if ((((((((((1)))))))))) { if (((((((((^(1");
    }

    private static void closedBracketsDoNotCount(Checks checks) {
        checks.right("print (1)" + Checks.times(30, "+(1)") + ";", 3 + 30 * 4 + 2);
        checks.right(Checks.times(30, "if 1{}"), 120);
        checks.right(Checks.times(10, "if 1{}else{}"), 70);
        checks.right("print ((((((((((1)))))))))) + ((((((((((1))))))))));", 45);
        checks.right("if ((((((((((1)))))))))) { print (((((((((1))))))))); }", 1 + 21 + 1 + 21 + 1);
        checks.right(Checks.times(10, "if 1 {") + Checks.times(10, "}else{}"), 30 + 40);
        checks.right(Checks.times(9, "if 1 {") + "print (1); print (1); if 1 { } if 1 { } else { }" + Checks.times(9, "}"),
                27 + 10 + 4 + 7 + 9);
        checks.right(DOG + "print ((((((((((1)))))))))) + (((((((((count(dog)))))))))) + (((((((((sum(dog.age where age))))))))));",
                10 + 1 + 21 + 1 + 22 + 1 + 26 + 1);
        checks.right(DOG + "print " + "(".repeat(9) + "count(dog where age" + ")".repeat(10) + " + count(dog where "
                + "(".repeat(9) + "age" + ")".repeat(10) + ";", 10 + 1 + 24 + 1 + 24 + 1);
    }

    private static void anyNumberOfNotAndMinus(Checks checks) {
        for (int n = 1; n <= 45; n++) {
            checks.gives("print " + "-".repeat(n) + "5; print " + "not ".repeat(n) + "5; print " + "not ".repeat(n) + "0;",
                    (n % 2 == 0 ? "5 1 0" : "-5 0 1"));
        }
        checks.gives("print " + "- ".repeat(147) + "7;", "-7");
        checks.gives("print " + "not ".repeat(60) + "-".repeat(87) + "7;", "1");
        checks.gives("print 1 - - - 1; print 2 * - - 3; print - - 2 * - 3; print - (- (- 4)); print 1 -1; print 1--1;",
                "0 6 -6 -4 0 2");
        checks.gives("print not not 3 = 3; print not not 3 - 3; print 1 and not not 2; print not not 2 and 0;", "1 0 1 0");
        checks.wrong("print - ^not 1;");
        checks.wrong("print not - ^not 1;");
        checks.wrong("print 1 + ^not 1;");
        checks.wrong("print 1 = ^not 1;");
        checks.wrong("print 1 * ^not 1;");
        checks.gives("print -(not 1); print 1 + (not 0); print 1 = (not 0); print 3 * (not 0);", "0 2 1 3");
    }

    private static void oneComparisonWithoutBrackets(Checks checks) {
        String[] signs = {"=", "!=", "<", "<=", ">", ">="};
        for (String one : signs) {
            for (String other : signs) {
                checks.wrong("print 1 " + one + " 2 ^" + other + " 3;");
                checks.wrong("print 1 " + one + " 2 + 3 * 4 ^" + other + " 5;");
                checks.wrong("print not 1 " + one + " 2 ^" + other + " 3;");
                checks.wrong("print 0 or (1 " + one + " 2 ^" + other + " 3);");
                checks.right("print (1 " + one + " 2) " + other + " 3;", 9);
                checks.right("print 1 " + one + " (2 " + other + " 3);", 9);
                checks.right("print 1 " + one + " 2 and 3 " + other + " 4 or 5 " + one + " 6;", 13);
                checks.right("print not 1 " + one + " 2 and not 3 " + other + " 4;", 11);
            }
        }
    }

    private static void atMostSevenKinds(Checks checks) {
        String seven = "kind a f:1;kind b f:1;kind c f:1;kind d f:1;kind e f:1;kind f f:1;kind g f:1;";
        checks.right(seven, 42);
        checks.wrong(seven + "kind ^h f:1;");
        checks.wrong(seven + "kind ^h");
        checks.wrong(seven + "kind^");
        checks.wrong(seven + "kind ^a f:1;");
        ArrayRecords array = new ArrayRecords();
        checks.wrong(array, seven + "kind ^h f:1;");
        for (char name = 'h'; name < 'h' + 7; name++) {
            checks.right(array, "kind " + name + " f:8; insert " + name + " f=" + (name - 'h' + 1) + ";", 12);
            checks.is("run", 0, () -> array.run(2));
        }
        checks.wrong(array, "kind ^o f:1;");
        checks.right(array, "let o = 1; insert n f=8;", 11);
        checks.is("run", 0, () -> array.run(2));
        for (int k = 1; k <= 7; k++) {
            int kind = k;
            checks.is("kinds in order", kind, () -> array.word(kind - 1, 0));
            checks.is("their fields", kind, () -> array.word(kind - 1, 1));
        }
        checks.is("the last kind again", 7, () -> array.word(7, 0));
    }

    /** Variables va, vb, .., each with its number. */
    private static ArrayRecords variables(int n) {
        ArrayRecords array = Checks.loaded(DOG);
        for (int k = 0; k < n; k++) {
            Checks.done(array, "let v" + (char) ('a' + k) + " = " + (k + 1) + ";");
        }
        return array;
    }

    private static void atMostTwentyVariables(Checks checks) {
        String[] places = {"let ^z = 1;", "let va = ^z;", "print ^z;", "print va + (vb * -^z);", "insert dog age=^z;",
            "insert dog age=1, size=^z;", "delete dog where ^z;", "delete dog where age = ^z;", "set dog where ^z : age=1;",
            "set dog : age=^z;", "set dog : age=1, size=^z;", "each dog by age where ^z { }", "each dog by age { dog.age = ^z; }",
            "each dog by age { print ^z; }", "if ^z { }", "while ^z { }", "if 0 { print ^z; }", "if 1 { } else { let ^z = 1; }",
            "print count(dog where ^z);", "print sum(dog.age where ^z);", "print least(dog.age where age < ^z);",
            "print greatest(dog.age where ^z);"};
        for (String place : places) {
            checks.wrong(variables(20), place);
            ArrayRecords array = variables(19);
            String text = place.replace("^", "");
            checks.is(text, 0, () -> Math.min(0, Checks.feed(array, text).load()));
            checks.wrong(array, "print z + ^y;");
            checks.wrong(array, "kind ^z f:1;");
        }
        ArrayRecords array = variables(20);
        checks.wrong(array, "print ^z;");
        checks.right(array, "kind z va:1, z:1; print va + vt;", 10 + 5);
        checks.is("run", 0, () -> array.run(2));
        checks.is("the first and the last", 21, () -> array.print(0));
        ArrayRecords rolled = variables(18);
        checks.wrong(rolled, "let x = 1; let y = 1; let ^z = 1;");
        checks.right(rolled, "let y = 5; let z = 6;", 10);
        checks.wrong(rolled, "let ^x = 1;");
        StringBuilder text = new StringBuilder();
        for (int k = 0; k < 20; k++) {
            text.append("print v").append((char) ('a' + k)).append(';');
        }
        checks.gives(text.toString(), "0".concat(" 0".repeat(19)));
        checks.wrong(text + "print ^vu;");
    }

    private static void latest64NumbersAreKept(Checks checks) {
        ArrayRecords array = Checks.loaded("let v = v + 1; print v * 3;");
        for (int printed = 0; printed <= 200; printed++) {
            int all = printed;
            checks.is("printed", all, array::printed);
            checks.fails("the next", IndexOutOfBoundsException.class, () -> array.print(all));
            checks.fails("none such", IndexOutOfBoundsException.class, () -> array.print(-1));
            if (printed > 0) {
                checks.is("the latest", all * 3, () -> array.print(all - 1));
                int first = Math.max(0, all - 64);
                checks.is("the first that is kept", first * 3 + 3, () -> array.print(first));
                checks.fails("the one before", IndexOutOfBoundsException.class, () -> array.print(first - 1));
            }
            array.run(2);
        }
        for (int k : new int[] {Integer.MIN_VALUE, -64, -2, 0, 137 - 1, 202, 1000, Integer.MAX_VALUE}) {
            checks.fails("print " + k, IndexOutOfBoundsException.class, () -> array.print(k));
        }
        for (int k = 137; k <= 200; k++) {
            int number = k;
            checks.is("kept", k * 3 + 3, () -> array.print(number));
        }
    }

    private static void manyNumbers(Checks checks) {
        ArrayRecords array = Checks.loaded("while 1 { print v; let v = v + 1; }");
        for (int k = 0; k < 400; k++) {
            array.run(20000);
        }
        int printed = 400 * 6667;
        checks.is("printed", printed, array::printed);
        checks.fails("not kept", IndexOutOfBoundsException.class, () -> array.print(printed - 65));
        checks.fails("none such", IndexOutOfBoundsException.class, () -> array.print(printed));
        for (int k = printed - 64; k < printed; k++) {
            int number = k;
            // Each run is spent behind a print, before its let: the number is printed twice.
            checks.is("kept", k - (k / 6667), () -> array.print(number));
        }
    }

    /** An object is used for at most 512 calls. */
    private static void calls512(Checks checks) {
        ArrayRecords loop = new ArrayRecords();
        // "while1{}"
        checks.is("feed", 8, () -> loop.feed(0x7768696c65317b7dL, 8));
        checks.is("load", 4, loop::load);
        for (int call = 3; call <= 511; call++) {
            checks.is("run", 1, () -> loop.run(20000));
        }
        checks.is("steps", 20000, loop::steps);
        ArrayRecords fed = new ArrayRecords();
        for (int call = 1; call <= 512; call += 2) {
            checks.is("feed", 1, () -> fed.feed(' ', 1));
            checks.is("load", 0, fed::load);
        }
        ArrayRecords wrong = new ArrayRecords();
        for (int call = 1; call <= 510; call += 3) {
            checks.is("feed", 2, () -> wrong.feed(0x203b, 2));
            checks.fails("load", IllegalArgumentException.class, wrong::load);
            checks.is("place", 1, wrong::place);
        }
    }
}
