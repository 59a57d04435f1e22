/** Promise 13: count. */
public final class Promise13CountTest {
    public static void main(String[] args) {
        answersAnyNumber();
        countsWhatIsMade();
        countsFrames();
        countsCoroutines();
        countsResults();
        Due.end();
    }

    private static void answersAnyNumber() {
        Due.by("Else -1. Without a CHUNK 1 to 11 are 0.");
        Play none = new Play();
        none.x.feed(0, 0, 0, 0, 0);
        Due.is("all without a chunk", none.counts(-1, 12), "-1 20 0 0 0 0 0 0 0 0 0 0 0 -1");
        Play play = Play.of("main 2\n RETURN 0 1");
        for (int what : new int[] {-1, 12, 13, Integer.MIN_VALUE, Integer.MAX_VALUE}) {
            Due.is("count(" + what + ")", play.x.count(what), -1);
            Due.is("count without a chunk", new LuaMachine().count(what), -1);
        }
    }

    private static void countsWhatIsMade() {
        Due.by("2 STEPS since load; 3 EXISTING; 4 OBJECTS made; 5 COLLECTIONS (collect's too); 6 ROOMS; 7 ROOM made in all; 8 bytes of strings made");
        Play play = Play.of("main 6\n NEWTABLE 0\n SETTABLE 0 #1 #1\n SETTABLE 0 #2 #1\n SETTABLE 0 #3 #1\n SETTABLE 0 #4 #1\n SETTABLE 0 #5 #1\n"
            + "LOADK 1 #12\n LOADK 2 #345\n CONCAT 1 1 2\n CLOSURE 2 f\n CLOSURE 2 f\n RETURN 0 1\n"
            + "function f 0 0 2 r0 r1 u0\n RETURN 0 1\n end");
        Due.is("at first", play.counts(1, 11), "0 0 60 60 0 32 61 335 1 0 1");
        play.x.run(1);
        Due.is("a table", play.counts(1, 11), "0 1 61 61 0 32 61 335 1 0 1");
        play.x.run(1);
        Due.is("its room", play.counts(1, 11), "0 2 61 61 0 36 65 335 1 0 1");
        play.x.run(3);
        Due.is("four entries", play.counts(6, 7), "36 65");
        play.x.run(1);
        Due.is("the room doubled", play.counts(6, 7), "40 73");
        play.x.run(3);
        Due.is("a string of 5 bytes", play.counts(1, 11), "0 9 62 62 0 40 73 340 1 0 1");
        play.x.run(1);
        Due.is("two variables and a closure of 3 upvalues", play.counts(1, 11), "0 10 65 65 0 40 76 340 1 0 1");
        play.x.run(1);
        Due.is("a closure more", play.counts(1, 11), "0 11 66 66 0 40 79 340 1 0 1");
        play.x.run(1);
        Due.is("at the end", play.counts(1, 11), "0 12 66 66 0 40 79 340 0 0 1");
        Due.by("EXISTING: those made and not collected; ROOMS: the sum of ROOMS of existing tables.");
        play.x.collect();
        Due.is("behind a collection", play.counts(1, 11), "0 12 58 66 1 32 79 340 0 0 1");
    }

    private static void countsFrames() {
        Due.by("9 FRAMES of the running coroutine (0 when the main one has ended)");
        Play play = Play.of("main 4\n GLOBAL 0 'pcall'\n CLOSURE 1 f\n CALL 0 2 1\n RETURN 0 1\n"
            + "function f 0 0 4 u0\n GLOBAL 0 'resume'\n GLOBAL 1 'create'\n CLOSURE 2 g\n CALL 1 2 2\n CALL 0 2 1\n RETURN 0 1\n"
            + "function g 0 0 2\n LOADNIL 0 0\n RETURN 0 1\n end\n end");
        StringBuilder frames = new StringBuilder();
        for (int i = 0; i < 12; i++) {
            frames.append(play.x.count(9)).append(' ');
            play.x.run(1);
        }
        Due.is("frames", frames.toString(), "1 1 1 3 3 3 3 3 1 1 3 1 ");
        Due.is("frames at the end", play.x.count(9), 0);
    }

    private static void countsCoroutines() {
        Due.by("11 coroutines that exist");
        Play play = Play.of("main 3\n GLOBAL 0 'create'\n GLOBAL 1 'print'\n CALL 0 2 1\n GLOBAL 0 'wrap'\n GLOBAL 1 'print'\n CALL 0 2 1\n RETURN 0 1");
        play.x.run(3);
        Due.is("coroutines", play.x.count(11), 2);
        Due.is("existing", play.x.count(3), 61);
        play.x.run(3);
        Due.is("coroutines", play.x.count(11), 3);
        Due.is("a wrapper is one object more", play.x.count(3), 63);
        Due.is("collect", play.x.collect(), 60);
        Due.is("coroutines", play.x.count(11), 1);
    }

    private static void countsResults() {
        Due.by("10 results, 1 for an ERROR, 0 before");
        Play play = Play.of("main 250\n RETURN 0 251");
        Due.is("before", play.x.count(10), 0);
        play.x.run(1);
        Due.is("250 results", play.x.count(10), 250);
        Play wrong = Play.of("main 2\n CALL 0 1 1\n RETURN 0 1");
        wrong.x.run(1);
        Due.is("an error", wrong.x.count(10), 1);
        Play nothing = Play.of("main 2\n RETURN 0 1");
        nothing.x.run(1);
        Due.is("no results", nothing.x.count(10), 0);
    }
}
