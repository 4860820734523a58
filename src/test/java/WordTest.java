/** Promise 9: word. */
public final class WordTest {
    public static void main(String[] arguments) {
        Checks checks = new Checks("WordTest");
        ordinary(checks);
        reused(checks);
        wrong(checks);
        allKinds(checks);
        checks.end();
    }

    private static void row(Checks checks, ArrayRecords array, int w, int... due) {
        for (int what = 0; what <= 6; what++) {
            int of = what;
            checks.is("word " + w + " " + what, what < due.length ? due[what] : 0, () -> array.word(w, of));
        }
    }

    private static void ordinary(Checks checks) {
        ArrayRecords array = Checks.done("kind dog age:5, size:8; kind cat a:1, b:2, c:3, d:4, e:5, f:32; "
                + "insert cat a=1, b=2, c=3, d=4, e=5, f=-6; insert dog size=2, age=1; insert dog age=33, size=-1;");
        row(checks, array, 0, 2, 1, 2, 3, 4, 5, -6);
        row(checks, array, 1, 1, 1, 2);
        row(checks, array, 2, 1, 1, 255);
        row(checks, array, 3, 0);
        row(checks, array, 63, 0);
        Checks.done(array, "set dog where size = 2 : age = 7; delete cat;");
        row(checks, array, 0, 0);
        row(checks, array, 1, 1, 7, 2);
        row(checks, array, 2, 1, 1, 255);
    }

    private static void reused(Checks checks) {
        ArrayRecords array = Checks.done("kind a p:8, q:8, r:8; kind b p:8; insert a p=1, q=2, r=3; insert a p=4, q=5, r=6;"
                + "delete a where p = 1; insert b p=9;");
        row(checks, array, 0, 2, 9);
        row(checks, array, 1, 1, 4, 5, 6);
        Checks.done(array, "delete b; insert a q=7;");
        row(checks, array, 0, 1, 0, 7, 0);
    }

    private static void wrong(Checks checks) {
        ArrayRecords array = Checks.done("kind a p:8; while 1 { insert a p=v; let v = v + 1; }");
        for (int w : new int[] {-1, 64, 65, Integer.MIN_VALUE, Integer.MAX_VALUE}) {
            for (int what : new int[] {-1, 0, 1, 6, 7}) {
                checks.fails("word " + w + " " + what, IllegalArgumentException.class, () -> array.word(w, what));
            }
        }
        for (int what : new int[] {-1, 7, 8, Integer.MIN_VALUE, Integer.MAX_VALUE}) {
            for (int w : new int[] {0, 63}) {
                checks.fails("word " + w + " " + what, IllegalArgumentException.class, () -> array.word(w, what));
            }
        }
        for (int w = 0; w < 64; w++) {
            row(checks, array, w, 1, w);
        }
    }

    private static void allKinds(Checks checks) {
        ArrayRecords array = new ArrayRecords();
        for (int k = 1; k <= 7; k++) {
            char c = (char) ('a' + 7 - k);
            Checks.done(array, "kind " + c + " f:4; insert " + c + " f=" + k + ";");
        }
        Checks.done(array, "insert a f=8; insert a f=9;");
        for (int k = 1; k <= 7; k++) {
            row(checks, array, k - 1, k, k);
        }
        row(checks, array, 7, 7, 8);
        row(checks, array, 8, 7, 9);
        checks.is("records", 9, array::records);
    }
}
