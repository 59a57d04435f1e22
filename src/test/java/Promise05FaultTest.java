/** Promise 5: fault; BoundaryTapeTest and BoundaryWellFormedTest have all that load can find wrong. */
public final class Promise05FaultTest {
    private static final byte[] PLAIN = Assembler.chunk("main 2\n RETURN 0 1");

    public static void main(String[] args) {
        takesTwoNumbersAlone();
        tellsTheLastLoad();
        tellsNoneOfALoadThatNeedsTooMuch();
        Due.end();
    }

    private static void takesTwoNumbersAlone() {
        Due.by("IllegalArgumentException: another what.");
        LuaMachine x = new LuaMachine();
        for (int what : new int[] {-1, 2, Integer.MIN_VALUE, Integer.MAX_VALUE}) {
            Due.isThrown("fault(" + what + ")", () -> x.fault(what), IllegalArgumentException.class);
        }
    }

    private static void tellsTheLastLoad() {
        Due.by("what 0: the FAULT of the last load, 0 if it had none; 1: its place, -1.");
        Play play = new Play();
        Due.is("before a load", play.x.fault(0) + " at " + play.x.fault(1), "0 at -1");
        Due.isThrown("load of nothing", () -> play.x.load(), UnsupportedOperationException.class);
        Due.is("nothing", play.x.fault(0) + " at " + play.x.fault(1), "1 at 0");
        play.put(PLAIN);
        Due.is("until the next load", play.x.fault(0) + " at " + play.x.fault(1), "1 at 0");
        play.x.load();
        Due.is("behind a load without one", play.x.fault(0) + " at " + play.x.fault(1), "0 at -1");
        play.put(Play.with(PLAIN, 2, 1));
        Due.isThrown("load of another", () -> play.x.load(), UnsupportedOperationException.class);
        Due.is("another", play.x.fault(0) + " at " + play.x.fault(1), "2 at 2");
    }

    private static void tellsNoneOfALoadThatNeedsTooMuch() {
        Due.by("(there is no CHUNK then, and no FAULT)");
        Play play = new Play();
        Due.isThrown("load of nothing", () -> play.x.load(), UnsupportedOperationException.class);
        play.x.limit(200);
        StringBuilder text = new StringBuilder("main 2\n");
        for (int i = 0; i < 141; i++) {
            text.append("LOADK 0 'n").append(i).append("'\n");
        }
        play.put(Assembler.chunk(text + "RETURN 0 1"));
        Due.isThrown("load", () -> play.x.load(), IllegalStateException.class);
        Due.is("its fault", play.x.fault(0) + " at " + play.x.fault(1), "0 at -1");
    }
}
