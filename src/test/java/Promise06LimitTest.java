/** Promise 6: limit. */
public final class Promise06LimitTest {
    public static void main(String[] args) {
        takes200To4000();
        boundsWhatExists();
        isLookedAtFromNowOn();
        Due.end();
    }

    private static void takes200To4000() {
        Due.by("LIMIT is n from now on, 200 .. 4,000: what it was. IllegalArgumentException: another n.");
        LuaMachine x = new LuaMachine();
        Due.is("limit(200)", x.limit(200), 1000);
        Due.is("limit(4000)", x.limit(4000), 200);
        Due.isThrown("limit(199)", () -> x.limit(199), IllegalArgumentException.class);
        Due.isThrown("limit(4001)", () -> x.limit(4001), IllegalArgumentException.class);
        Due.isThrown("limit(-1)", () -> x.limit(-1), IllegalArgumentException.class);
        Due.isThrown("limit(0)", () -> x.limit(0), IllegalArgumentException.class);
        Due.isThrown("the least limit", () -> x.limit(Integer.MIN_VALUE), IllegalArgumentException.class);
        Due.isThrown("the most limit", () -> x.limit(Integer.MAX_VALUE), IllegalArgumentException.class);
        Due.is("limit(1000)", x.limit(1000), 4000);
    }

    /** A list of tables, each holding the one before. */
    private static final String CHAIN = "main 3\n LOADNIL 0 0\nbody:\n NEWTABLE 1\n SETTABLE 1 #1 0\n MOVE 0 1\n JMP 0 >body";

    private static void boundsWhatExists() {
        for (int limit : new int[] {200, 201, 1000, 4000}) {
            Play play = Play.of(CHAIN);
            play.x.limit(limit);
            Due.is("error at limit " + limit, play.finish(), "error 10");
            Due.is("existing at limit " + limit, play.x.count(3), limit);
            Due.is("collections at limit " + limit, play.x.count(5), 1);
        }
    }

    private static void isLookedAtFromNowOn() {
        Due.by("LIMIT is n from now on");
        Play play = Play.of(CHAIN);
        play.x.limit(4000);
        play.x.run(4 * 500);
        int existing = play.x.count(3);
        play.x.limit(200);
        Due.is("what is there stays", play.x.count(3), existing);
        Due.is("the next new one", play.finish(), "error 10");
    }
}
