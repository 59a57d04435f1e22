/** Promise 2: feed. */
public final class Promise02FeedTest {
    public static void main(String[] args) {
        givesTheLength();
        putsTheHighestByteFirst();
        refusesWhatHasNoRoom();
        Due.end();
    }

    private static void givesTheLength() {
        Due.by("come to THE TAPE: its length");
        LuaMachine x = new LuaMachine();
        Due.is("first feed", x.feed(0, 0, 0, 0, 0), 20);
        Due.is("second feed", x.feed(-1, -1, -1, -1, -1), 40);
        Due.is("count(0)", x.count(0), 40);
        x.end(3);
        Due.is("feed behind end", x.feed(0, 0, 0, 0, 0), 23);
    }

    private static void putsTheHighestByteFirst() {
        Due.by("The four bytes of each, the highest first");
        LuaMachine x = new LuaMachine();
        // main of 2 registers with the one constant "A\u00c2" and the code LOADK 0 0, RETURN 0 2
        x.feed(0x00010201, 0x01000001, 0x04000241, 0xC2000200, 0x00000101);
        x.feed(0x00002600, -1, -1, -1, -1);
        x.end(24);
        Due.is("load", x.load(), 1);
        Due.is("run", x.run(5), 1);
        Due.is("value", x.value(0), 2);
        Due.is("first byte", x.byteOf(0, 0), 0x41);
        Due.is("second byte", x.byteOf(0, 1), 0xC2);
    }

    /** More calls than an object promises to answer, but the tape's end is not nearer. */
    private static void refusesWhatHasNoRoom() {
        Due.by("IllegalStateException: there is no room for 20.");
        LuaMachine x = new LuaMachine();
        for (int i = 0; i < 3276; i++) {
            x.feed(i, i, i, i, i);
        }
        Due.is("a nearly full tape", x.count(0), 65_520);
        Due.isThrown("feed of a full tape", () -> x.feed(1, 1, 1, 1, 1), IllegalStateException.class);
        Due.is("count(0) behind it", x.count(0), 65_520);
        x.end(65_517);
        Due.isThrown("feed with room for 19", () -> x.feed(1, 1, 1, 1, 1), IllegalStateException.class);
        x.end(65_516);
        Due.is("feed with room for 20", x.feed(1, 1, 1, 1, 1), 65_536);
    }
}
