/** Promise 4: load. */
public final class Promise04LoadTest {
    private static final String THREE = "main 2\n RETURN 0 1\n function f 0 0 2\n RETURN 0 1\n function g 0 0 2\n RETURN 0 1\n end\n end";

    public static void main(String[] args) {
        tellsHowManyPrototypes();
        makesWhatItMakesInOrder();
        beginsAnew();
        takesTheTapeAlsoWhenItThrows();
        refusesMoreObjectsThanTheLimit();
        refusesMoreThanMayBeMadeInAll();
        Due.end();
    }

    private static void tellsHowManyPrototypes() {
        Due.by("its outermost PROTOTYPE's closure is called by the main coroutine, without arguments (its FRAME is there): how many PROTOTYPES");
        Play.due("main 3\n GLOBAL 0 'select'\n LOADK 1 '#'\n VARARG 2 0\n CALL 0 0 2\n RETURN 0 2", "0");
        Play play = new Play();
        play.put(Assembler.chunk(THREE));
        Due.is("load", play.x.load(), 3);
        Due.is("the tape behind it", play.x.count(0), 0);
        Due.is("counts behind it", play.counts(1, 11), "0 0 60 60 0 32 61 335 1 0 1");
        Due.isThrown("load of the taken tape", () -> play.x.load(), UnsupportedOperationException.class);
    }

    /** Globals 0, 56 names, the variable, the constants' strings, the closure, the main coroutine. */
    private static void makesWhatItMakesInOrder() {
        Due.by("LOAD makes, in this order: GLOBALS; strings: BUILT IN names as above; __index __newindex __call __add __sub __mul __mod __idiv __band __bor __bxor __shl __shr __unm __bnot __concat __len __eq __lt __le __tostring __metatable;"
            + " nil boolean number string table function thread; suspended running normal dead; the outermost's upvalue's variable; the constants' strings as they stand in the CHUNK; GLOBALS' ENTRIES (with their ROOM); the outermost's closure; the main coroutine.");
        Due.is("numbers without strings of its own", Play.answer("main 4\n GETUPVAL 0 0\n GLOBAL 1 'running'\n CALL 1 1 2\n NEWTABLE 2\n RETURN 0 4"),
            "table:0 coroutine:59 table:60");
        Due.is("numbers with two strings of its own, one of them twice, one built in",
            Play.answer("main 5\n LOADK 0 'a'\n LOADK 1 'type'\n GLOBAL 1 'running'\n CALL 1 1 2\n NEWTABLE 2\n RETURN 1 3\n"
                + "function f 0 0 2\n LOADK 0 'b'\n LOADK 1 'a'\n RETURN 0 1\n end"),
            "coroutine:61 table:62");
        Due.is("the order of the globals", Play.of("main 6\n GLOBAL 0 'next'\n GETUPVAL 1 0\n LOADNIL 2 0\n JMP 0 >in\nbody:\n GLOBAL 5 'type'\n SETGLOBAL 'last' 3\n"
            + "in:\n TFORCALL 0 1\n TFORLOOP 2 >body\n GLOBAL 0 'last'\n RETURN 0 2").finish(), "'last'");
    }

    private static void beginsAnew() {
        Due.by("all is as at first (but LIMIT; counts of what was made and collected, too, begin anew)");
        Play play = Play.of("main 4\n NEWTABLE 0\n SETGLOBAL 'x' 0\n GLOBAL 0 'print'\n LOADK 1 #1\n CALL 0 2 1\n LOADK 0 #9\n RETURN 0 2");
        play.x.limit(300);
        play.finish();
        play.x.collect();
        play.put(Assembler.chunk("main 2\n GLOBAL 0 'x'\n RETURN 0 2"));
        Due.is("results until it is loaded", play.results(), "9");
        play.x.load();
        Due.is("counts", play.counts(1, 11), "0 0 61 61 0 32 61 336 1 0 1");
        Due.is("globals", play.finish(), "nil");
        Due.is("limit", play.x.limit(200), 300);
    }

    private static void takesTheTapeAlsoWhenItThrows() {
        Due.by("UnsupportedOperationException: a FAULT (there is no CHUNK then).");
        Play play = Play.of(THREE);
        play.x.feed(0, 0, 0, 0, 0);
        Due.isThrown("load", () -> play.x.load(), UnsupportedOperationException.class);
        Due.is("counts behind it", play.counts(0, 11), "0 0 0 0 0 0 0 0 0 0 0 0");
        Due.isThrown("run behind it", () -> play.x.run(1), IllegalStateException.class);
        Due.isThrown("collect behind it", () -> play.x.collect(), IllegalStateException.class);
        play.put(Assembler.chunk("main 4\n GLOBAL 0 'print'\n LOADK 1 #1\n CALL 0 2 1\n LOADK 0 #9\n RETURN 0 2"));
        play.x.load();
        Due.is("a program that ends", play.finish() + " " + play.printed(), "9 1\n");
        play.x.feed(0, 0, 0, 0, 0);
        Due.isThrown("load", () -> play.x.load(), UnsupportedOperationException.class);
        Due.isThrown("its results", () -> play.x.kind(0), IndexOutOfBoundsException.class);
        Due.isThrown("its results' values", () -> play.x.value(0), IndexOutOfBoundsException.class);
        Due.isThrown("its output", () -> play.x.output(0), IndexOutOfBoundsException.class);
        Due.is("counts behind it", play.counts(0, 11), "0 0 0 0 0 0 0 0 0 0 0 0");
    }

    private static void refusesMoreObjectsThanTheLimit() {
        Due.by("IllegalStateException: it needs more than LIMIT OBJECTS (nothing is collected in load), or what may be made in all, before the first STEP (there is no CHUNK then, and no FAULT)");
        Play play = new Play();
        play.x.limit(200);
        play.put(withStrings(140));
        Due.is("load with 200 objects", play.x.load(), 1);
        Due.is("existing", play.x.count(3), 200);
        play.put(withStrings(141));
        Due.isThrown("load with 201 objects", () -> play.x.load(), IllegalStateException.class);
        Due.is("counts behind it", play.counts(0, 11), "0 0 0 0 0 0 0 0 0 0 0 0");
        Due.is("fault behind it", play.x.fault(0), 0);
        Due.is("its place", play.x.fault(1), -1);
        Due.isThrown("run behind it", () -> play.x.run(1), IllegalStateException.class);
        play.x.limit(201);
        play.put(withStrings(141));
        Due.is("load with a higher limit", play.x.load(), 1);
        play.put(withStrings(141));
        play.x.feed(0, 0, 0, 0, 0);
        play.x.limit(200);
        Due.isThrown("a fault goes first", () -> play.x.load(), UnsupportedOperationException.class);
    }

    private static byte[] withStrings(int many) {
        StringBuilder text = new StringBuilder("main 2\n");
        for (int i = 0; i < many; i++) {
            text.append("LOADK 0 '").append((char) ('A' + i / 26)).append((char) ('A' + i % 26)).append("'\n");
        }
        return Assembler.chunk(text + "RETURN 0 1");
    }

    /** A string that doubles makes 400,000 bytes nearly full; the names of one load more are too much, another load's time. */
    private static void refusesMoreThanMayBeMadeInAll() {
        Due.by("or what may be made in all, before the first STEP");
        Play play = Play.of("main 6\n LOADK 0 'ab'\n LOADK 1 #1\n LOADK 2 #15\n LOADK 3 #1\n FORPREP 1 >next\nbody:\n MOVE 5 0\n MOVE 4 0\n CONCAT 0 4 5\n"
            + "next:\n FORLOOP 1 >body\n LEN 0 0\n RETURN 0 2");
        Due.is("length", play.finish(), "65536");
        Due.is("bytes", play.x.count(8), 335 + 131_070);
        play.put(Assembler.chunk("main 6\n LOADK 0 'ab'\n LOADK 1 #1\n LOADK 2 #16\n LOADK 3 #1\n FORPREP 1 >next\nbody:\n MOVE 5 0\n MOVE 4 0\n CONCAT 0 4 5\n"
            + "next:\n FORLOOP 1 >body\n LEN 0 0\n RETURN 0 2"));
        play.x.load();
        Due.is("length", play.finish(), "131072");
        Due.is("bytes of this load alone", play.x.count(8), 335 + 262_142);
        // 131,405 and 262,477 bytes are made: 6,118 are left
        int loads = 0;
        boolean refused = false;
        for (int i = 0; i < 40 && !refused; i++) {
            play.put(Assembler.chunk("main 2\n RETURN 0 1"));
            try {
                play.x.load();
                loads++;
            } catch (IllegalStateException e) {
                refused = true;
            }
        }
        Due.is("loads of 335 bytes in 6,118", loads, 18);
        Due.is("fault", play.x.fault(0), 0);
        Due.is("counts without a chunk", play.counts(1, 11), "0 0 0 0 0 0 0 0 0 0 0");
    }
}
