/** Promise 3: end. */
public final class Promise03EndTest {
    public static void main(String[] args) {
        takesWhatIsThere();
        keepsTheFirstBytes();
        Due.end();
    }

    private static void takesWhatIsThere() {
        Due.by("IllegalArgumentException: not 0 .. its length.");
        LuaMachine x = new LuaMachine();
        Due.is("end(0) of an empty tape", x.end(0), 0);
        Due.isThrown("end(1) of an empty tape", () -> x.end(1), IllegalArgumentException.class);
        x.feed(1, 2, 3, 4, 5);
        Due.is("end at the length", x.end(20), 20);
        Due.isThrown("end behind the length", () -> x.end(21), IllegalArgumentException.class);
        Due.isThrown("end below 0", () -> x.end(-1), IllegalArgumentException.class);
        Due.isThrown("end far below 0", () -> x.end(Integer.MIN_VALUE), IllegalArgumentException.class);
        Due.is("end", x.end(7), 7);
        Due.is("count(0)", x.count(0), 7);
        Due.isThrown("end behind what has stayed", () -> x.end(8), IllegalArgumentException.class);
        Due.is("end(0)", x.end(0), 0);
        Due.is("count(0) at last", x.count(0), 0);
        Due.isThrown("end(1) behind it", () -> x.end(1), IllegalArgumentException.class);
        Due.isThrown("end far behind it", () -> x.end(Integer.MAX_VALUE), IllegalArgumentException.class);
    }

    private static void keepsTheFirstBytes() {
        Due.by("Only the first n bytes of THE TAPE stay: n.");
        Play play = new Play();
        byte[] chunk = Assembler.chunk("main 2\n LOADK 0 #5\n RETURN 0 2");
        play.put(chunk);
        play.x.feed(-1, -1, -1, -1, -1);
        play.x.end(chunk.length);
        Due.is("load of the first bytes", play.x.load(), 1);
        Due.is("what they do", play.finish(), "5");
    }
}
