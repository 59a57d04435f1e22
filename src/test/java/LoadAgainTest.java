import java.util.Arrays;

/** Promise 4: "all is as at first", whatever the load before has left. */
public final class LoadAgainTest {
    private static final String COLLECTED = "main 4\n NEWTABLE 0\n NEWTABLE 0\n NEWTABLE 0\n GLOBAL 1 'collect'\n CALL 1 1 2\n RETURN 1 2";

    public static void main(String[] args) {
        Due.by("THE TAPE is a CHUNK: all is as at first (but LIMIT; counts of what was made and collected, too, begin anew)");
        comesBehindFaults();
        comesBehindManyParts();
        comesBehindManyObjects();
        comesBehindManyConstants();
        comesBehindMuchRoom();
        comesBehindManyCoroutines();
        comesBehindAnOpenRow();
        comesBehindAnError();
        comesBehindWhatIsNotCaught();
        comesInTheMiddle();
        Due.end();
    }

    private static void again(Play play, String program, String want) {
        play.put(Assembler.chunk(program));
        play.x.load();
        Due.is("again: " + program.replace('\n', ';'), play.finish(), want);
    }

    /** All that a chunk can end too early with, on one object, each before the whole one. */
    private static void comesBehindFaults() {
        byte[] bytes = Assembler.chunk("main 3\n CLOSURE 0 f\n CALL 0 1 2\n RETURN 0 2\n function f 0 0 2 u0\n CLOSURE 0 g\n TAILCALL 0 1\n function g 0 0 2 u0\n GLOBAL 0 'type'\n LOADK 1 'abc'\n TAILCALL 0 2\n end\n end");
        Play play = new Play();
        for (int length = 0; length < bytes.length; length++) {
            play.put(Arrays.copyOf(bytes, length));
            Due.isThrown("load of " + length, () -> play.x.load(), UnsupportedOperationException.class);
            play.put(bytes);
            Due.is("load of the whole", play.x.load(), 3);
            Due.is("what it does", play.finish(), "'string'");
            play.put(Arrays.copyOf(bytes, length));
            Due.isThrown("load of " + length, () -> play.x.load(), UnsupportedOperationException.class);
            play.put(Play.with(bytes, 1, 0));
            Due.isThrown("load of an outermost that takes no more", () -> play.x.load(), UnsupportedOperationException.class);
            Due.is("its fault", play.x.fault(0) + " at " + play.x.fault(1), "2 at 1");
        }
    }

    private static void comesBehindManyParts() {
        String many = "main 2\n" + "LOADK 0 #1\n".repeat(9_000) + "RETURN 0 2";
        Play play = new Play();
        for (int i = 0; i < 4; i++) {
            again(play, many, "1");
        }
        StringBuilder upvalues = new StringBuilder("main 3\n CLOSURE 0 f100\n LOADK 1 #6\n CALL 0 1 2\n RETURN 0 2\n");
        for (int i = 0; i < 101; i++) {
            upvalues.append("function f").append(i).append(" 0 0 2").append(" r1".repeat(60)).append("\n GETUPVAL 0 59\n RETURN 0 2\n end\n");
        }
        for (int i = 0; i < 4; i++) {
            again(play, upvalues.toString(), "6");
        }
    }

    private static void comesBehindManyObjects() {
        String chain = "main 8\n LOADNIL 0 0\n LOADK 2 #1\n LOADK 3 #940\n LOADK 4 #1\n FORPREP 2 >next\nbody:\n NEWTABLE 1\n SETTABLE 1 #1 0\n SETTABLE 1 #2 5\n MOVE 0 1\nnext:\n FORLOOP 2 >body\n"
            + "MOVE 6 0\n LOADK 1 #0\nsum:\n GETTABLE 5 6 #2\n ADD 1 1 5\n GETTABLE 6 6 #1\n EQ 1 6 nil\n JMP 0 >end\n JMP 0 >sum\nend:\n GLOBAL 2 'type'\n MOVE 3 1\n CALL 2 2 2\n RETURN 0 4";
        Play play = new Play();
        for (int i = 0; i < 6; i++) {
            again(play, chain, "table:999 " + 940 * 941 / 2 + " 'number'");
            Due.is("existing", play.x.count(3), 1_000);
            again(play, COLLECTED, "61");
        }
    }

    private static void comesBehindManyConstants() {
        StringBuilder text = new StringBuilder("main 2\n");
        for (int i = 0; i < 500; i++) {
            text.append("LOADK 0 'n").append(i).append("'\n");
        }
        Play play = Play.of(text + "RETURN 0 2");
        Due.is("the last", play.finish(), "'n499'");
        again(play, "main 4\n NEWTABLE 0\n NEWTABLE 0\n LOADK 1 #1\n LOADK 2 #2\n CONCAT 1 1 2\n LOADNIL 0 2\n GLOBAL 1 'collect'\n CALL 1 1 2\n RETURN 1 2", "60");
    }

    private static void comesBehindMuchRoom() {
        String sum = "main 8\n NEWTABLE 0\n LOADK 1 #1\n LOADK 2 #16384\n LOADK 3 #1\n FORPREP 1 >next\nbody:\n SETTABLE 0 4 4\nnext:\n FORLOOP 1 >body\n"
            + "LOADK 5 #0\n LOADK 1 #1\n LOADK 2 #16384\n LOADK 3 #1\n FORPREP 1 >last\nmore:\n GETTABLE 6 0 4\n ADD 5 5 6\nlast:\n FORLOOP 1 >more\n RETURN 5 2";
        Play play = new Play();
        for (int i = 0; i < 8; i++) {
            again(play, sum, Integer.toString(16_384 * 16_385 / 2));
            Due.is("rooms", play.x.count(6) + " " + play.x.count(7), (32 + 16_384) + " " + (61 + 32_764));
        }
    }

    /** 31 coroutines that have begun, each with a value of its own. */
    private static void comesBehindManyCoroutines() {
        String all = "main 10\n NEWTABLE 0\n LOADK 1 #1\n LOADK 2 #31\n LOADK 3 #1\n FORPREP 1 >next\nbody:\n GLOBAL 5 'wrap'\n CLOSURE 6 f\n CALL 5 2 2\n SETTABLE 0 4 5\n MOVE 6 4\n CALL 5 2 1\nnext:\n FORLOOP 1 >body\n"
            + "LOADK 7 #0\n LOADK 1 #1\n LOADK 2 #31\n LOADK 3 #1\n FORPREP 1 >last\nmore:\n GETTABLE 5 0 4\n CALL 5 1 2\n MUL 5 5 4\n ADD 7 7 5\nlast:\n FORLOOP 1 >more\n RETURN 7 2\n"
            + "function f 1 0 3 u0\n GLOBAL 1 'yield'\n CALL 1 1 1\n RETURN 0 2\n end";
        Play play = new Play();
        for (int i = 0; i < 3; i++) {
            again(play, all, Integer.toString(31 * 32 * 63 / 6));
            Due.is("coroutines", play.x.count(11), 32);
        }
    }

    private static void comesBehindAnOpenRow() {
        Play play = Play.of("main 4\n CLOSURE 0 f\n CALL 0 1 0\n RETURN 0 0\n function f 0 0 4\n NEWTABLE 0\n NEWTABLE 1\n RETURN 0 3\n end");
        play.x.run(5);
        play.put(Assembler.chunk("main 4\n LOADNIL 0 0\n NEWTABLE 0\n NEWTABLE 1\n NEWTABLE 2\n LOADNIL 0 3\n RETURN 0 1"));
        play.x.load();
        Due.is("nothing of it is left", play.x.collect(), 60);
        play.x.run(5);
        Due.is("nor is it reached", play.x.collect(), 60);
    }

    private static void comesBehindAnError() {
        Play play = Play.of("main 4\n GLOBAL 0 'error'\n NEWTABLE 1\n CALL 0 2 1\n RETURN 0 1");
        Due.is("an error", play.finish(), "error table:60");
        play.put(Assembler.chunk("main 2\n LOADNIL 0 0\n RETURN 0 1"));
        play.x.load();
        Due.is("counts", play.counts(1, 11), "0 0 60 60 0 32 61 335 1 0 1");
        Due.is("run", play.x.run(1) + " " + play.x.run(1), "0 1");
    }

    /** The doubled string needs more bytes than there are; those that a small load needs are left. */
    private static void comesBehindWhatIsNotCaught() {
        Play play = Play.of("main 4\n LOADK 0 'ab'\nbody:\n MOVE 1 0\n MOVE 2 0\n CONCAT 0 1 2\n JMP 0 >body");
        Due.is("too many bytes", play.finish(), "error 11");
        again(play, "main 4\n GLOBAL 0 'pcall'\n GLOBAL 1 'error'\n LOADK 2 #5\n CALL 0 3 0\n RETURN 0 0", "false 5");
    }

    private static void comesInTheMiddle() {
        Play play = Play.of("main 6\n GLOBAL 0 'pcall'\n GLOBAL 1 'wrap'\n CLOSURE 2 f\n CALL 1 2 2\n CALL 0 2 0\n RETURN 0 0\n function f 0 0 4 u0\nbody:\n NEWTABLE 0\n CLOSURE 1 g\n JMP 0 >body\n function g 0 0 2 r0\n RETURN 0 1\n end\n end");
        play.x.run(500);
        Due.is("frames of the coroutine", play.x.count(9), 1);
        again(play, COLLECTED, "61");
        again(play, "main 3\n GLOBAL 0 'running'\n CALL 0 1 0\n RETURN 0 0", "coroutine:59 true");
        again(play, "main 3\n CALL 0 1 1\n RETURN 0 1", "error 1");
    }
}
