/** The boundary cases of NUMBERS and of a field's bits. Each method is named after its sentence in the document. */
public final class NumbersBoundaryTest {
    // The least and the highest int.
    private static final String ENDS = "let m = -2147483647 - 1; let h = 2147483647; ";

    public static void main(String[] arguments) {
        Checks checks = new Checks("NumbersBoundaryTest");
        sumsDifferencesProductsWrapAround(checks);
        divisionGoesTowardsZero(checks);
        restHasTheSignOfWhatIsDivided(checks);
        byZeroBothGiveZero(checks);
        leastByMinusOne(checks);
        truthIsOneOrZero(checks);
        anyNumberButZeroIsTrue(checks);
        comparisonsAtTheEnds(checks);
        sumWrapsAround(checks);
        leastAndGreatestAtTheEnds(checks);
        fieldGetsTheLowestBits(checks);
        checks.end();
    }

    private static void sumsDifferencesProductsWrapAround(Checks checks) {
        checks.gives(ENDS + "print h + 1; print 1 + h; print h + h; print m + m; print m + h; print m + -1;",
                "-2147483648 -2147483648 -2 0 -1 2147483647");
        checks.gives(ENDS + "print m - 1; print h - -1; print h - m; print m - h; print 0 - m; print m - m;",
                "2147483647 -2147483648 -1 1 -2147483648 0");
        checks.gives(ENDS + "print h * 2; print h * h; print m * m; print m * -1; print h * m; print h * -1;",
                "-2 1 0 -2147483648 -2147483648 -2147483647");
        checks.gives("print 65536 * 65536; print 65536 * 32768; print 65535 * 65537; print 46341 * 46341;",
                "0 -2147483648 -1 -2147479015");
        checks.gives(ENDS + "print -m; print - -m; print -h; print -(h + 1); print -0;",
                "-2147483648 -2147483648 -2147483647 -2147483648 0");
        checks.gives(ENDS + "while h > 0 { let h = h + 1; let n = n + 1; } print h; print n;", "-2147483648 1");
    }

    private static void divisionGoesTowardsZero(Checks checks) {
        checks.gives("print 7 / 2; print -7 / 2; print 7 / -2; print -7 / -2;", "3 -3 -3 3");
        checks.gives("print 1 / 2; print -1 / 2; print 1 / -2; print -1 / -2; print 0 / 5; print 0 / -5;", "0 0 0 0 0 0");
        checks.gives("print 6 / 2; print -6 / 2; print 6 / 1; print 6 / -1; print 6 / 6; print 6 / 7;", "3 -3 6 -6 1 0");
        checks.gives(ENDS + "print h / -1; print m / h; print h / m; print m / m; print m / 2; print m / 1; print h / 2;",
                "-2147483647 -1 0 1 -1073741824 -2147483648 1073741823");
    }

    private static void restHasTheSignOfWhatIsDivided(Checks checks) {
        checks.gives("print 7 % 3; print -7 % 3; print 7 % -3; print -7 % -3;", "1 -1 1 -1");
        checks.gives("print 6 % 3; print -6 % 3; print 0 % 3; print 0 % -3; print 2 % 3; print -2 % 3;", "0 0 0 0 2 -2");
        checks.gives(ENDS + "print m % h; print h % m; print m % m; print m % 1; print h % -1; print m % 10; print h % 10;",
                "-1 2147483647 0 0 0 -8 7");
    }

    private static void byZeroBothGiveZero(Checks checks) {
        checks.gives(ENDS + "print 5 / 0; print -5 / 0; print 0 / 0; print h / 0; print m / 0;", "0 0 0 0 0");
        checks.gives(ENDS + "print 5 % 0; print -5 % 0; print 0 % 0; print h % 0; print m % 0;", "0 0 0 0 0");
        checks.gives("print 7 / (3 - 3) + 1; print 7 % v + 2; print 5 / 0 / 0; print 9 % (9 / 0);", "1 2 0 0");
        checks.gives("kind k a:8, b:8; insert k a=9; print count(k where a / b = 0); print count(k where a % b);"
                + "set k : b = a / b + 3, a = a % b + 4; print sum(k.a); print sum(k.b);", "1 0 4 3");
    }

    private static void leastByMinusOne(Checks checks) {
        checks.gives(ENDS + "print m / -1; print m % -1; print m / (0 - 1); print m % (h * 2 + 1);",
                "-2147483648 0 -2147483648 0");
        checks.gives("kind k a:32; insert k a=-2147483647 - 1; print count(k where a / -1 = a and a % -1 = 0);"
                + "set k : a = a / -1; print sum(k.a);", "1 -2147483648");
    }

    private static void truthIsOneOrZero(Checks checks) {
        checks.gives("print 5 and 7; print 5 or 7; print 0 or 7; print not 0; print not 7; print not not 7;",
                "1 1 1 1 0 1");
        checks.gives("print 7 = 7; print 7 != 8; print 7 < 8; print 7 <= 8; print 8 > 7; print 8 >= 7;", "1 1 1 1 1 1");
        checks.gives("print 7 = 8; print 7 != 7; print 8 < 7; print 8 <= 7; print 7 > 8; print 7 >= 8;", "0 0 0 0 0 0");
        checks.gives("print (7 = 7) + (8 > 7) + (not 0) + (3 and 4) + (3 or 0);", "5");
    }

    private static void anyNumberButZeroIsTrue(Checks checks) {
        for (String number : new String[] {"1", "2", "256", "65536", "-1", "h", "m", "h + 1", "m * -1"}) {
            checks.gives(ENDS + "if " + number + " { print 1; } else { print 2; }", "1");
            checks.gives(ENDS + "print not " + number + "; print (" + number + ") and 1; print 0 or " + number + ";", "0 1 1");
            checks.gives("kind k a:1; insert k a=1;" + ENDS + "print count(k where " + number + "); delete k where " + number
                    + "; print count(k);", "1 0");
        }
        for (String number : new String[] {"0", "-0", "h - h", "m + m", "65536 * 65536", "1 / 2", "7 / 0"}) {
            checks.gives(ENDS + "if " + number + " { print 1; } else { print 2; } while " + number + " { print 3; }", "2");
            checks.gives(ENDS + "print not " + number + "; print (" + number + ") and 1; print 0 or " + number + ";", "1 0 0");
            checks.gives("kind k a:1; insert k a=1;" + ENDS + "print count(k where " + number + "); delete k where " + number
                    + "; print count(k);", "0 1");
        }
    }

    private static void comparisonsAtTheEnds(Checks checks) {
        checks.gives(ENDS + "print m < h; print h < m; print m <= h; print h <= m; print m > h; print h > m; print m >= h;",
                "1 0 1 0 0 1 0");
        checks.gives(ENDS + "print h + 1 = m; print h + 1 < h; print m - 1 > m; print -m = m; print -h > m; print m != h;",
                "1 1 1 1 1 1");
        checks.gives(ENDS + "print h <= h; print m >= m; print h < h; print m > m; print -1 < 0; print 0 <= -0;",
                "1 1 0 0 1 1");
    }

    private static void filled(Checks checks, String number, int sum) {
        ArrayRecords array = Checks.loaded("kind k a:32; while 1 { insert k a=" + number + "; }");
        checks.is("full", 2, () -> array.run(20000));
        Checks.done(array, "print sum(k.a); print count(k);");
        checks.compare("64 times " + number, sum + " 64", Checks.prints(array));
    }

    private static void sumWrapsAround(Checks checks) {
        filled(checks, "2147483647", -64);
        filled(checks, "-2147483647 - 1", 0);
        filled(checks, "-1", -64);
        filled(checks, "67108864", 0);
        filled(checks, "33554432", -2147483648);
        filled(checks, "0", 0);
    }

    private static void leastAndGreatestAtTheEnds(Checks checks) {
        checks.gives("kind k a:32;" + ENDS + "insert k a=h; print least(k.a); print greatest(k.a); insert k a=m;"
                + "print least(k.a); print greatest(k.a); delete k where a = h; print least(k.a); print greatest(k.a);",
                "2147483647 2147483647 -2147483648 2147483647 -2147483648 -2147483648");
        checks.gives("kind k a:31;" + ENDS + "insert k a=-1; insert k a=m; print greatest(k.a); print least(k.a);",
                "2147483647 0");
    }

    /** A field gets the lowest bits of a number, and gives 0 .. 2^bits - 1 (of 32 bits the int). */
    private static void fieldGetsTheLowestBits(Checks checks) {
        for (int bits = 1; bits <= 32; bits++) {
            long above = 1L << bits;
            for (long number : new long[] {0, 1, above - 1, above, above + 1, above / 2, -1, -above, -above + 1,
                0x55555555, 0x2aaaaaaa, 2147483647, -2147483648}) {
                int due = (int) (number & (above - 1));
                put(checks, bits, told((int) number), due);
            }
        }
    }

    /** How a program writes an int. */
    private static String told(int number) {
        return number == Integer.MIN_VALUE ? "-2147483647 - 1" : String.valueOf(number);
    }

    private static void put(Checks checks, int bits, String number, int due) {
        ArrayRecords array = Checks.done("kind k f:" + bits + "; insert k f=" + number + ";");
        checks.is(number + " inserted in " + bits + " bits", due, () -> array.word(0, 1));
        Checks.done(array, "set k : f=0; set k : f=" + number + "; print sum(k.f);");
        checks.is(number + " set in " + bits + " bits", due, () -> array.word(0, 1));
        checks.is("it gives", due, () -> array.print(0));
        Checks.done(array, "set k : f=0; each k by f { k.f = " + number + "; print k.f; }");
        checks.is(number + " put by a cursor in " + bits + " bits", due, () -> array.word(0, 1));
        checks.is("it gives", due, () -> array.print(1));
    }
}
