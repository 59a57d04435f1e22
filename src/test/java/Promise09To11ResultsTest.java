/** Promises 9, 10 and 11: kind, value and byteOf. */
public final class Promise09To11ResultsTest {
    public static void main(String[] args) {
        tellsEachKind();
        tellsAnError();
        tellsNothingBeforeTheEnd();
        Due.end();
    }

    private static void tellsEachKind() {
        Due.by("Result k, from 0, of the main coroutine, or (0) its ERROR: 0 nil, 1 false, 2 true, 3 integer, 4 string, 5 table, 6 function, 7 coroutine.");
        Play play = Play.of("main 12\n LOADNIL 0 0\n LOADBOOL 1 0 0\n LOADBOOL 2 1 0\n LOADK 3 #-9223372036854775808\n LOADK 4 'a\u00ff'\n LOADK 5 ''\n"
            + "GETUPVAL 6 0\n CLOSURE 7 f\n GLOBAL 8 'collect'\n GLOBAL 9 'print'\n GLOBAL 10 'running'\n CALL 10 1 2\n RETURN 0 12\n"
            + "function f 0 0 2\n RETURN 0 1\n end");
        play.x.run(100);
        int[] kinds = {0, 1, 2, 3, 4, 4, 5, 6, 6, 6, 7};
        long[] values = {0, 0, 0, Long.MIN_VALUE, 2, 0, 0, 62, 23, 0, 61};
        for (int k = 0; k < kinds.length; k++) {
            Due.is("kind(" + k + ")", play.x.kind(k), kinds[k]);
        }
        Due.by("An integer result itself; of a string its length, of others the OBJECT's number (built in: place in the list), else 0.");
        for (int k = 0; k < values.length; k++) {
            Due.is("value(" + k + ")", play.x.value(k), values[k]);
        }
        Due.by("IndexOutOfBoundsException: there is none.");
        for (int k : new int[] {-1, 11, 250, Integer.MIN_VALUE, Integer.MAX_VALUE}) {
            Due.isThrown("kind(" + k + ")", () -> play.x.kind(k), IndexOutOfBoundsException.class);
            Due.isThrown("value(" + k + ")", () -> play.x.value(k), IndexOutOfBoundsException.class);
            Due.isThrown("byteOf(" + k + ", 0)", () -> play.x.byteOf(k, 0), IndexOutOfBoundsException.class);
        }
        Due.by("IllegalArgumentException: it is no string, or has no such byte.");
        Due.is("byteOf(4, 0)", play.x.byteOf(4, 0), 'a');
        Due.is("byteOf(4, 1)", play.x.byteOf(4, 1), 255);
        Due.isThrown("byteOf(4, 2)", () -> play.x.byteOf(4, 2), IllegalArgumentException.class);
        Due.isThrown("byteOf(4, -1)", () -> play.x.byteOf(4, -1), IllegalArgumentException.class);
        Due.isThrown("byteOf(5, 0)", () -> play.x.byteOf(5, 0), IllegalArgumentException.class);
        Due.isThrown("byteOf of the most", () -> play.x.byteOf(4, Integer.MAX_VALUE), IllegalArgumentException.class);
        Due.isThrown("byteOf of the least", () -> play.x.byteOf(4, Integer.MIN_VALUE), IllegalArgumentException.class);
        for (int k : new int[] {0, 1, 2, 3, 6, 7, 8, 10}) {
            Due.isThrown("byteOf of no string, " + k, () -> play.x.byteOf(k, 0), IllegalArgumentException.class);
        }
        play.x.collect();
        Due.is("behind a collection", play.results(),
            "nil false true -9223372036854775808 'a\u00ff' '' table:0 function:62 function:23 function:0 coroutine:61");
    }

    private static void tellsAnError() {
        Due.by("or (0) its ERROR");
        Play play = Play.of("main 3\n GLOBAL 0 'error'\n LOADK 1 'oh'\n CALL 0 2 1\n RETURN 0 1");
        Due.is("run", play.x.run(10), 2);
        Due.is("kind", play.x.kind(0), 4);
        Due.is("value", play.x.value(0), 2);
        Due.is("byteOf", play.x.byteOf(0, 1), 'h');
        Due.isThrown("kind(1)", () -> play.x.kind(1), IndexOutOfBoundsException.class);
        Due.is("an error that is nil", Play.answer("main 3\n GLOBAL 0 'error'\n CALL 0 1 1\n RETURN 0 1"), "error nil");
    }

    private static void tellsNothingBeforeTheEnd() {
        Due.by("IndexOutOfBoundsException: there is none.");
        Play play = Play.of("main 3\n LOADK 0 #1\n RETURN 0 2");
        play.x.run(1);
        Due.isThrown("kind", () -> play.x.kind(0), IndexOutOfBoundsException.class);
        play.x.run(1);
        Due.is("kind at the end", play.x.kind(0), 3);
        play.put(Assembler.chunk("main 3\n RETURN 0 1"));
        play.x.load();
        Due.isThrown("kind behind a load", () -> play.x.kind(0), IndexOutOfBoundsException.class);
        play.x.run(1);
        Due.isThrown("kind of no result", () -> play.x.kind(0), IndexOutOfBoundsException.class);
    }
}
