/** Promise 1: a new object, and that what throws changes nothing. */
public final class Promise01NewObjectTest {
    public static void main(String[] args) {
        isEmptyAtFirst();
        throwsWhatIsListedFirst();
        staysAsItIsWhenItThrows();
        Due.end();
    }

    private static void isEmptyAtFirst() {
        Due.by("LIMIT 1,000; no CHUNK; GLOBALS as above.");
        Play play = new Play();
        Due.is("counts of a new object", play.counts(0, 11), "0 0 0 0 0 0 0 0 0 0 0 0");
        Due.is("fault(0)", play.x.fault(0), 0);
        Due.is("fault(1)", play.x.fault(1), -1);
        Due.isThrown("run without a chunk", () -> play.x.run(1), IllegalStateException.class);
        Due.isThrown("collect without a chunk", () -> play.x.collect(), IllegalStateException.class);
        Due.isThrown("kind without a chunk", () -> play.x.kind(0), IndexOutOfBoundsException.class);
        Due.isThrown("value without a chunk", () -> play.x.value(0), IndexOutOfBoundsException.class);
        Due.isThrown("byteOf without a chunk", () -> play.x.byteOf(0, 0), IndexOutOfBoundsException.class);
        Due.isThrown("output without a chunk", () -> play.x.output(0), IndexOutOfBoundsException.class);
        Due.is("limit of a new object", play.x.limit(200), 1000);
        Due.isThrown("load of a new object", () -> play.x.load(), UnsupportedOperationException.class);
    }

    private static void throwsWhatIsListedFirst() {
        Due.by("(Of two exceptions of a call the one listed first is thrown");
        Play play = new Play();
        Due.isThrown("run(0) without a chunk", () -> play.x.run(0), IllegalArgumentException.class);
        Play ended = Play.of("main 2\n LOADK 0 #1\n RETURN 0 2");
        ended.finish();
        Due.isThrown("byteOf where there is no result", () -> ended.x.byteOf(1, -1), IndexOutOfBoundsException.class);
        StringBuilder text = new StringBuilder("main 2\n");
        for (int i = 0; i < 141; i++) {
            text.append("LOADK 0 'n").append(i).append("'\n");
        }
        play.x.limit(200);
        play.put(Assembler.chunk(text + "MOVE 2 0\n RETURN 0 1"));
        Due.isThrown("load of a fault that needs too much", () -> play.x.load(), UnsupportedOperationException.class);
        play.put(Assembler.chunk(text + "MOVE 1 0\n RETURN 0 1"));
        Due.isThrown("load of what needs too much alone", () -> play.x.load(), IllegalStateException.class);
    }

    private static void staysAsItIsWhenItThrows() {
        Due.by("but for load what throws changes nothing.)");
        Play play = Play.of("main 2\n LOADK 0 #7\n RETURN 0 2");
        play.x.feed(1, 2, 3, 4, 5);
        play.x.run(1);
        String before = play.counts(0, 11);
        Due.isThrown("end", () -> play.x.end(21), IllegalArgumentException.class);
        Due.isThrown("limit", () -> play.x.limit(199), IllegalArgumentException.class);
        Due.isThrown("run", () -> play.x.run(100_001), IllegalArgumentException.class);
        Due.isThrown("fault", () -> play.x.fault(2), IllegalArgumentException.class);
        Due.isThrown("kind", () -> play.x.kind(0), IndexOutOfBoundsException.class);
        Due.isThrown("value", () -> play.x.value(-1), IndexOutOfBoundsException.class);
        Due.isThrown("byteOf", () -> play.x.byteOf(0, 0), IndexOutOfBoundsException.class);
        Due.isThrown("output", () -> play.x.output(0), IndexOutOfBoundsException.class);
        Due.is("counts behind what throws", play.counts(0, 11), before);
        Due.is("limit behind what throws", play.x.limit(1000), 1000);
        Due.is("the program behind what throws", play.finish(), "7");
    }
}
