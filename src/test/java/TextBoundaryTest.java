import java.util.ArrayList;
import java.util.List;

/** The boundary cases of a program's text: bytes, names, numbers, and where it is wrong. */
public final class TextBoundaryTest {
    private static final String[] WORDS = ("kind insert delete where set let print each by if else while remove and or not "
            + "count sum least greatest").split(" ");
    private static final String DOG = "kind dog age:5, size:8;";

    // Right programs of every statement and every form of an expression, the tokens with blanks between.
    private static final String[] RIGHT = {
        "kind dog age : 5 , size : 8 ; insert dog age = 1 , size = v + 2 * 3 ; insert dog size = - 1 ; delete dog ;",
        "kind dog age : 5 ; delete dog where age = 1 or not age > 2 and v ; set dog : age = age + 1 ; print 5 ;",
        "kind dog age : 5 , size : 8 ; set dog where ( age ) != size : age = size , size = ( age - 1 ) % 3 ;",
        "kind a f : 1 ; each a by f where f < 1 { a . f = a . f + 1 ; remove a ; each a by f { } } print v ;",
        "let v = 3 ; while v >= 1 { let v = v - 1 ; if v { print v ; } else { print - v ; } } if 0 { } print w ;",
        "kind a f : 1 ; print count ( a ) + count ( a where f ) ; print sum ( a . f ) * sum ( a . f where f = 1 ) ;",
        "kind a f : 1 ; print least ( a . f ) / 2 ; print greatest ( a . f where not ( f ) ) <= 3 ; print not not v ;",
    };

    public static void main(String[] arguments) {
        Checks checks = new Checks("TextBoundaryTest");
        otherBytesAreWrong(checks);
        bytesBetweenTokens(checks);
        blanksWhereTheyAreWanted(checks);
        namesHaveOneToEightLetters(checks);
        namesDifferInAnyLetter(checks);
        wordsAreNoNames(checks);
        nearlyWordsAreNames(checks);
        numbersUpTo2147483647(checks);
        everyWordBeginsItsStatementOnly(checks);
        whatIsMissingIsWrongAtTheLength(checks);
        noTokenIsWrongItself(checks);
        wordsAreNeverWrongForWantOfAKind(checks);
        checks.end();
    }

    private static String before(int place, String text) {
        return text.substring(0, place) + "^" + text.substring(place);
    }

    /** What each byte does behind a number that a print has. */
    private static void otherBytesAreWrong(Checks checks) {
        for (int b = 0; b < 256; b++) {
            char c = (char) b;
            String text = "print 1" + c;
            if (c == ';') {
                checks.right(text, 3);
            } else if (c == ' ' || c == '\n' || c >= '0' && c <= '9' || "=<>+-*/%".indexOf(c) >= 0) {
                checks.wrong(before(8, text));
            } else {
                checks.wrong(before(7, text));
            }
            if (c == ' ' || c == '\n') {
                checks.right("" + c, 0);
            } else {
                checks.wrong(before(0, "" + c));
            }
        }
    }

    private static void bytesBetweenTokens(Checks checks) {
        for (int b = 0; b < 256; b++) {
            char c = (char) b;
            String text = "print" + c + "1;";
            if (c == ' ' || c == '\n' || c >= '0' && c <= '9') {
                checks.right(text, 3);
            } else if (c == '-') {
                checks.right(text, 4);
            } else if (c == '(') {
                checks.wrong(before(7, text));
            } else {
                checks.wrong(before(c >= 'a' && c <= 'z' ? 0 : 5, text));
            }
        }
    }

    private static void blanksWhereTheyAreWanted(Checks checks) {
        String text = "kind dog age:5,size:8;let v=-3+(4)*5;if v<=6{print not v!=7;}else{print v>=8;}";
        checks.right(text, 42);
        for (String blank : new String[] {" ", "\n", "  ", "\n\n", " \n ", "\n \n"}) {
            checks.right(blank + String.join(blank, tokens(text)) + blank, 42);
        }
        checks.wrong("^printv;");
        checks.wrong("^letv=1;");
        checks.wrong("let v ^v;");
        checks.wrong("print 1 ^2;");
        checks.wrong("print 1 ^! = 2;");
        checks.wrong("print 1 < ^= 2;");
        checks.wrong("print 1 > ^= 2;");
        checks.wrong("print 1 = ^> 2;");
        checks.wrong("print 1 = ^! 2;");
        checks.wrong("print 1 <^> 2;");
        checks.wrong("print 1 =^< 2;");
        checks.wrong("print 1 ^!! 2;");
        checks.wrong("print 1 !=^= 2;");
    }

    /** Cuts a text without blanks but between words into its tokens. */
    private static List<String> tokens(String text) {
        List<String> tokens = new ArrayList<>();
        for (String part : text.split("(?<=[^a-z0-9])(?=.)|(?<=.)(?=[^a-z0-9])")) {
            String latest = tokens.isEmpty() ? "" : tokens.get(tokens.size() - 1);
            if (part.equals("=") && !latest.isEmpty() && "!<>".contains(latest)) {
                tokens.set(tokens.size() - 1, latest + part);
            } else if (!part.isBlank()) {
                tokens.add(part);
            }
        }
        return tokens;
    }

    private static void namesHaveOneToEightLetters(Checks checks) {
        for (String letter : new String[] {"a", "q", "z"}) {
            for (int n = 1; n <= 8; n++) {
                String name = letter.repeat(n);
                checks.right("let " + name + " = 1;", 5);
                checks.right("print " + name + ";", 3);
                checks.right("kind " + name + " f:1; insert " + name + " f=1;", 12);
                checks.right("kind k " + name + ":1; insert k " + name + "=1; print sum(k." + name + ");", 20);
            }
            for (int n : new int[] {9, 10, 12, 13, 14, 16, 26, 64, 256, 450}) {
                String name = letter.repeat(n);
                checks.wrong("let ^" + name + " = 1;");
                checks.wrong("print ^" + name + ";");
                checks.wrong("kind ^" + name + " f:1;");
                checks.wrong("kind k ^" + name + ":1;");
                checks.wrong(DOG + "^" + name);
            }
        }
    }

    private static void namesDifferInAnyLetter(Checks checks) {
        checks.gives("let aaaaaaaa = 1; let baaaaaaa = 2; let aaaaaaab = 3; let aaaabaaa = 4; let aaaaaaa = 5;"
                + "print aaaaaaaa; print baaaaaaa; print aaaaaaab; print aaaabaaa; print aaaaaaa; print aaaaaa;", "1 2 3 4 5 0");
        checks.gives("let a = 1; let aa = 2; let z = 3; let zz = 4; let az = 5; let za = 6; print a; print aa; print z;"
                + "print zz; print az; print za;", "1 2 3 4 5 6");
        checks.gives("kind zzzzzzzz zzzzzzzz:8, zzzzzzzy:8; insert zzzzzzzz zzzzzzzz=1, zzzzzzzy=2;"
                + "print sum(zzzzzzzz.zzzzzzzz); print sum(zzzzzzzz.zzzzzzzy); print zzzzzzzy;", "1 2 0");
    }

    private static void wordsAreNoNames(Checks checks) {
        for (String word : WORDS) {
            checks.wrong("let ^" + word + " = 1;");
            checks.wrong("kind ^" + word + " f:1;");
            checks.wrong("kind k ^" + word + ":1;");
            checks.wrong("kind k f:1, ^" + word + ":1;");
            checks.wrong(DOG + "insert ^" + word + " age=1;");
            checks.wrong(DOG + "insert dog ^" + word + "=1;");
            checks.wrong(DOG + "each dog by ^" + word + " { }");
            checks.wrong(DOG + "each dog by age { remove ^" + word + "; }");
            checks.wrong(DOG + "each dog by age { dog.^" + word + " = 1; }");
            checks.wrong(DOG + "print count(^" + word + ");");
            checks.wrong(DOG + "print sum(dog.^" + word + ");");
            boolean goesOn = word.equals("not") || List.of(WORDS).indexOf(word) >= 16;
            checks.wrong("print " + (goesOn ? word + "^" : "^" + word) + ";");
        }
    }

    private static void nearlyWordsAreNames(Checks checks) {
        for (String word : WORDS) {
            for (String name : new String[] {word + "s", "s" + word, word.substring(1), word + word}) {
                boolean isName = name.length() <= 8 && !List.of(WORDS).contains(name);
                if (isName) {
                    checks.right("let " + name + " = 1; print " + name + ";", 8);
                }
            }
        }
    }

    private static void numbersUpTo2147483647(Checks checks) {
        checks.gives("print 0; print 00; print 9; print 10; print 2147483646; print 2147483647; print 0002147483647;",
                "0 0 9 10 2147483646 2147483647 2147483647");
        checks.gives("print " + "0".repeat(400) + "2147483647;", "2147483647");
        for (String number : new String[] {"2147483648", "2147483649", "2147483650", "2147483700", "3000000000", "4294967295",
            "4294967296", "4294967297", "9999999999", "10000000000", "9223372036854775807", "9223372036854775808",
            "18446744073709551615", "18446744073709551616", "18446744073709551617", "9".repeat(100), "1" + "0".repeat(200),
            "0002147483648", "0".repeat(300) + "2147483648"}) {
            checks.wrong("print ^" + number + ";");
            checks.wrong("print -^" + number + ";");
            checks.wrong("kind k f:^" + number + ";");
            checks.wrong("^" + number);
        }
    }

    /** A statement begins with one of these words, or with a kind's name within an each; nothing else does. */
    private static void everyWordBeginsItsStatementOnly(Checks checks) {
        List<String> begins = List.of("kind insert delete set let print each if while remove".split(" "));
        for (String word : WORDS) {
            boolean can = begins.contains(word);
            checks.wrong(DOG + (can ? word + "^" : "^" + word));
            checks.wrong(DOG + "if 1 { " + (can ? word + "^" : "^" + word));
            checks.wrong(DOG + "each dog by age { " + (can ? word + "^" : "^" + word));
        }
        checks.wrong("if 1 { } else^");
        checks.wrong("while 1 { } ^else");
        checks.wrong(DOG + "each dog by age { } ^else");
        checks.wrong("if 1 { } else { } ^else");
    }

    private static int place(String[] tokens, int n) {
        return String.join(" ", List.of(tokens).subList(0, n)).length() + (n == 0 ? 0 : 1);
    }

    /** The beginning of a right program is right too, or something is missing behind its last byte. */
    private static void whatIsMissingIsWrongAtTheLength(Checks checks) {
        for (String text : RIGHT) {
            String[] tokens = text.split(" ");
            checks.right(text, tokens.length);
            int open = 0;
            for (int n = 0; n <= tokens.length; n++) {
                String latest = n == 0 ? ";" : tokens[n - 1];
                open += latest.equals("{") ? 1 : latest.equals("}") ? -1 : 0;
                String beginning = String.join(" ", List.of(tokens).subList(0, n));
                if (open == 0 && (latest.equals(";") || latest.equals("}"))) {
                    checks.right(beginning, n);
                    checks.right(beginning + " \n", n);
                } else {
                    checks.wrong(beginning + "^");
                    checks.wrong(beginning + " \n ^");
                }
            }
        }
    }

    private static void noTokenIsWrongItself(Checks checks) {
        for (String text : RIGHT) {
            String[] tokens = text.split(" ");
            for (int n = 0; n <= tokens.length; n++) {
                int place = place(tokens, n);
                String beginning = n == tokens.length ? text + " " : text.substring(0, place);
                for (String wrong : new String[] {"#", "!", "A", "\t", "\r", "\u0000", "\u00ff", "abcdefghi", "2147483648"}) {
                    checks.wrong(beginning + "^" + wrong);
                    checks.wrong(beginning + "^" + wrong + " " + text);
                }
            }
        }
    }

    /** Names of kinds and fields are looked at where they stand themselves. */
    private static void wordsAreNeverWrongForWantOfAKind(Checks checks) {
        for (String text : new String[] {"insert^", "insert ^dog", "delete^", "delete ^dog", "set^", "set ^dog", "each^",
            "each ^dog", "remove^", "remove ^dog", "print count^", "print count(^", "print count(^dog", "print sum(^dog",
            "print least(^dog", "print greatest(^dog", DOG + "remove^", DOG + "remove ^dog", DOG + "if 1 { remove ^dog",
            DOG + "each dog by^", DOG + "each dog by ^dog", DOG + "print sum(dog.^", DOG + "print sum(dog.^dog",
            DOG + "insert dog^", DOG + "insert dog ^dog", DOG + "set dog :^", DOG + "set dog : ^dog"}) {
            checks.wrong(text);
        }
    }
}
