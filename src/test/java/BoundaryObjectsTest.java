/** OBJECTS and how many may be: for each sentence that names a boundary, what is due on both sides of it. */
public final class BoundaryObjectsTest {
    /** A table that holds the one before it, again and again. */
    private static final String CHAIN = "main 3\n LOADNIL 0 0\nbody:\n NEWTABLE 1\n SETTABLE 1 #1 0\n MOVE 0 1\n JMP 0 >body";
    private static final String GARBAGE = "main 3\nbody:\n NEWTABLE 0\n JMP 0 >body";

    public static void main(String[] args) {
        countsNoBuiltInFunctions();
        makesEachStringOnce();
        numbersThemAsTheyAreMade();
        existsUpToTheLimit();
        collectsAtTheLimit();
        raises10ForEachKind();
        goesOnBehindTheError();
        roomsUpTo40000();
        countsTheOldRoomToo();
        makesUpTo60000();
        makesUpTo300000OfRoom();
        countsEachRoomWhole();
        countsUpvalues();
        makesUpTo400000Bytes();
        countsBytesOfNewStringsAlone();
        countsAllLoadsTogether();
        looksAtAllThatIsMadeFirst();
        looksAtAllRoomFirst();
        needsNoMoreThanTheLimit();
        needsNoMoreThanMayBeMade();
        Due.end();
    }

    private static void made(String program, int steps, int want) {
        Play play = Play.of(program);
        int before = play.x.count(4);
        play.x.run(steps);
        Due.is("made by " + program.replace('\n', ';'), play.x.count(4) - before, want);
    }

    private static void countsNoBuiltInFunctions() {
        Due.by("OBJECTS: tables, closures (built in ones aside, but wrap's is one), variables that are shared (one is made by 44), coroutines (the main one too), strings");
        made("main 3\n GLOBAL 0 'print'\n RETURN 0 1", 2, 0);
        made("main 3\n NEWTABLE 0\n RETURN 0 1", 2, 1);
        made("main 3\n CLOSURE 0 f\n RETURN 0 1\n function f 0 0 2\n RETURN 0 1\n end", 2, 1);
        made("main 3\n CLOSURE 0 f\n RETURN 0 1\n function f 0 0 2 r1 r2 r1 u0\n RETURN 0 1\n end", 2, 3);
        made("main 3\n GLOBAL 0 'create'\n GLOBAL 1 'print'\n CALL 0 2 2\n RETURN 0 1", 4, 1);
        made("main 3\n GLOBAL 0 'wrap'\n GLOBAL 1 'print'\n CALL 0 2 2\n RETURN 0 1", 4, 2);
        Due.is("the main coroutine is one that exists", Play.of("main 2\n RETURN 0 1").x.count(11), 1);
    }

    private static void makesEachStringOnce() {
        Due.by("strings: of each row of bytes one, made when it is needed and there is none");
        made("main 4\n LOADK 0 #1\n LOADK 1 #2\n CONCAT 2 0 1\n CONCAT 3 0 1\n RETURN 0 1", 5, 1);
        made("main 4\n LOADK 0 'pri'\n LOADK 1 'nt'\n CONCAT 2 0 1\n RETURN 0 1", 4, 0);
        made("main 4\n LOADK 0 '12'\n LOADK 1 #1\n LOADK 2 #2\n CONCAT 0 1 2\n RETURN 0 1", 5, 0);
        made("main 4\n GLOBAL 0 'char'\n CALL 0 1 2\n GLOBAL 1 'char'\n CALL 1 1 2\n RETURN 0 1", 5, 1);
        made("main 4\n GLOBAL 0 'tostring'\n LOADK 1 true\n CALL 0 2 2\n GLOBAL 0 'tostring'\n LOADNIL 1 0\n CALL 0 2 2\n RETURN 0 1", 7, 1);
        Due.is("two constants that are the same, and one that is a name", Play.of("main 4\n LOADK 0 'x'\n LOADK 1 '__index'\n RETURN 0 1\n function f 0 0 2\n LOADK 0 'x'\n LOADK 0 'thread'\n RETURN 0 1\n end").x.count(4), 61);
    }

    private static void numbersThemAsTheyAreMade() {
        Due.by("They are numbered from 0 as they are made.");
        Play.due("main 4\n GETUPVAL 0 0\n NEWTABLE 1\n CLOSURE 2 f\n NEWTABLE 3\n RETURN 0 5\n function f 0 0 2\n RETURN 0 1\n end", "table:0 table:60 function:61 table:62");
        Play.due("main 4\n NEWTABLE 0\n LOADNIL 0 0\n GLOBAL 1 'collect'\n CALL 1 1 1\n NEWTABLE 0\n RETURN 0 2", "table:61");
    }

    private static void existsUpToTheLimit() {
        Due.by("Before one is made: if EXISTING is LIMIT or more");
        for (int limit : new int[] {200, 201, 1_000, 4_000}) {
            Play play = Play.of(CHAIN);
            play.x.limit(limit);
            play.x.run(1 + 4 * (limit - 60));
            Due.is("existing and collections at limit " + limit, play.x.count(3) + " " + play.x.count(5), limit + " 0");
            Due.is("the next", play.x.run(1), 2);
            Due.is("its error", play.results(), "10");
            Due.is("existing and collections behind it", play.x.count(3) + " " + play.x.count(5), limit + " 1");
        }
    }

    private static void collectsAtTheLimit() {
        Due.by("COLLECTION; if it is still so: ERROR 10");
        Play play = Play.of(GARBAGE);
        play.x.limit(200);
        play.x.run(2 * 140);
        Due.is("full", play.counts(3, 5), "200 200 0");
        play.x.run(1);
        Due.is("all go but that in the register, and the new one comes", play.counts(3, 5), "62 201 1");
        Play lower = Play.of(GARBAGE);
        lower.x.limit(4_000);
        lower.x.run(2 * 500);
        lower.x.limit(200);
        Due.is("above a lower limit", lower.counts(3, 5), "560 560 0");
        lower.x.run(1);
        Due.is("the next", lower.counts(3, 5), "62 561 1");
    }

    /** A program that begins with so many tables kept that 200 exist. */
    private static Play full(String rest, int beside) {
        Play play = Play.of("main 9\n NEWTABLE 0\n LOADK 1 #1\n LOADK 2 #%d\n LOADK 3 #1\n FORPREP 1 >next\nbody:\n NEWTABLE 5\n SETTABLE 0 4 5\nnext:\n FORLOOP 1 >body\n".replace("%d", Integer.toString(139 - beside)) + rest);
        play.x.limit(200);
        return play;
    }

    private static void raises10ForEachKind() {
        Due.by("if it is still so: ERROR 10");
        Due.is("a table", full("NEWTABLE 6\n RETURN 6 2", 0).finish(), "error 10");
        Due.is("the last table", full("NEWTABLE 6\n RETURN 6 2", 1).finish(), "table:199");
        Due.is("a closure", full("CLOSURE 6 f\n RETURN 6 2\n function f 0 0 2\n RETURN 0 1\n end", 0).finish(), "error 10");
        Due.is("a variable and a closure", full("CLOSURE 6 f\n RETURN 6 2\n function f 0 0 2 r0\n RETURN 0 1\n end", 1).finish(), "error 10");
        Due.is("both", full("CLOSURE 6 f\n RETURN 6 2\n function f 0 0 2 r0\n RETURN 0 1\n end", 2).finish(), "function:199");
        Due.is("a coroutine", full("GLOBAL 6 'create'\n GLOBAL 7 'print'\n CALL 6 2 2\n RETURN 6 2", 0).finish(), "error 10");
        Due.is("the last coroutine", full("GLOBAL 6 'create'\n GLOBAL 7 'print'\n CALL 6 2 2\n RETURN 6 2", 1).finish(), "coroutine:199");
        Due.is("a coroutine and wrap's function", full("GLOBAL 6 'wrap'\n GLOBAL 7 'print'\n CALL 6 2 2\n RETURN 6 2", 1).finish(), "error 10");
        Due.is("both", full("GLOBAL 6 'wrap'\n GLOBAL 7 'print'\n CALL 6 2 2\n RETURN 6 2", 2).finish(), "function:199");
        Due.is("a string", full("LOADK 6 #1\n LOADK 7 #2\n CONCAT 6 6 7\n RETURN 6 2", 0).finish(), "error 10");
        Due.is("a string while another waits", full("LOADK 6 #1\n LOADK 7 #2\n LOADK 8 #3\n CONCAT 6 6 8\n RETURN 6 2", 1).finish(), "error 10");
        Due.is("both", full("LOADK 6 #1\n LOADK 7 #2\n LOADK 8 #3\n CONCAT 6 6 8\n RETURN 6 2", 2).finish(), "'123'");
        Due.is("a string that there is", full("LOADK 6 'pri'\n LOADK 7 'nt'\n CONCAT 6 6 7\n RETURN 6 2", 2).finish(), "'print'");
        Due.is("a text", full("GLOBAL 6 'tostring'\n LOADK 7 #77\n CALL 6 2 2\n RETURN 6 2", 0).finish(), "error 10");
        Due.is("the last text", full("GLOBAL 6 'tostring'\n LOADK 7 #77\n CALL 6 2 2\n RETURN 6 2", 1).finish(), "'77'");
        Due.is("a string of bytes", full("GLOBAL 6 'char'\n LOADK 7 #77\n CALL 6 2 2\n RETURN 6 2", 0).finish(), "error 10");
        Due.is("a part", full("GLOBAL 6 'sub'\n LOADK 7 'type'\n LOADK 8 #2\n CALL 6 3 2\n RETURN 6 2", 0).finish(), "error 10");
    }

    private static void goesOnBehindTheError() {
        Due.by("ERROR 10");
        Play play = full("GLOBAL 5 'pcall'\n CLOSURE 6 f\n CALL 5 2 3\n LOADNIL 0 0\n NEWTABLE 7\n RETURN 5 4\n function f 0 0 2\n NEWTABLE 0\n RETURN 0 1\n end", 1);
        Due.is("caught, and behind it there is room again", play.finish(), "false 10 table:200");
    }

    /** 38 tables of 1,024 in a chain take 38,912, the globals 32, then come so many of 4. */
    private static String rooms(int ofFour) {
        return "main 12\n LOADBOOL 0 1 0\n LOADK 1 #1\n LOADK 2 #38\n LOADK 3 #1\n FORPREP 1 >next\nbody:\n NEWTABLE 5\n LOADK 6 #2\n LOADK 7 #513\n LOADK 8 #1\n FORPREP 6 >fill\nput:\n SETTABLE 5 9 9\nfill:\n FORLOOP 6 >put\n"
            + "SETTABLE 5 #1 0\n MOVE 0 5\n LOADNIL 5 0\nnext:\n FORLOOP 1 >body\n LOADK 1 #1\n LOADK 2 #" + ofFour + "\n LOADK 3 #1\n FORPREP 1 >last\nsmall:\n NEWTABLE 5\n SETTABLE 5 #1 0\n MOVE 0 5\nlast:\n FORLOOP 1 >small\n RETURN 1 2";
    }

    private static void roomsUpTo40000() {
        Due.by("ROOMS with the new ROOM, the old one still counted, would be above 40,000, for a ROOM");
        Play just = Play.of(rooms(264));
        just.finish();
        Due.is("rooms and collections", just.x.count(6) + " " + just.x.count(5), "40000 0");
        Play over = Play.of(rooms(265));
        Due.is("one more", over.finish(), "error 10");
        Due.is("rooms and collections", over.x.count(6) + " " + over.x.count(5), "40000 1");
    }

    private static void countsTheOldRoomToo() {
        Due.by("the old one still counted");
        Play play = Play.of("main 8\n NEWTABLE 0\n LOADK 1 #1\n LOADK 2 #40000\n LOADK 3 #1\n FORPREP 1 >next\nbody:\n SETTABLE 0 4 4\nnext:\n FORLOOP 1 >body\n RETURN 0 1");
        Due.is("32,768 beside 16,384", play.finish(), "error 10");
        Due.is("rooms and collections", play.x.count(6) + " " + play.x.count(5), (32 + 16_384) + " 1");
    }

    private static void makesUpTo60000() {
        Due.by("MADE IN ALL, by all loads together, are at most 60,000 OBJECTS");
        Play play = Play.of(GARBAGE);
        play.x.run(2 * 50_000);
        play.x.run(2 * 9_940);
        Due.is("made", play.x.count(4), 60_000);
        Due.is("still running", play.x.count(9), 1);
        Due.is("the next", play.x.run(1), 2);
        Due.is("its error", play.results() + " " + play.x.count(4), "11 60000");
    }

    private static void makesUpTo300000OfRoom() {
        Due.by("300,000 of ROOM");
        // 61 of load, a closure of 3 upvalues, then 28 a time: 4, 8 and 16
        String program = "main 4\n CLOSURE 1 f\n CALL 1 1 1\n RETURN 0 1\n function f 0 0 3%s\nbody:\n NEWTABLE 0\n SETTABLE 0 #1 #1\n SETTABLE 0 #2 #1\n SETTABLE 0 #3 #1\n SETTABLE 0 #4 #1\n SETTABLE 0 #5 #1\n"
            + "SETTABLE 0 #6 #1\n SETTABLE 0 #7 #1\n SETTABLE 0 #8 #1\n SETTABLE 0 #9 #1\n JMP 0 >body\n end";
        Play just = Play.of(String.format(program, " u0 u0 u0"));
        Due.is("the end", just.finish(), "error 11");
        Due.is("just 300,000", just.x.count(7), 300_000);
        Play before = Play.of(String.format(program, " u0 u0 u0 u0"));
        Due.is("the end", before.finish(), "error 11");
        Due.is("the last room of 16 is one too many", before.x.count(7), 300_000 - 16 + 1);
    }

    private static void countsEachRoomWhole() {
        Due.by("(each new ROOM counted whole, and the upvalues of each closure)");
        Play play = Play.of("main 8\n NEWTABLE 0\n LOADK 1 #1\n LOADK 2 #9\n LOADK 3 #1\n FORPREP 1 >next\nbody:\n SETTABLE 0 4 4\nnext:\n FORLOOP 1 >body\n RETURN 0 1");
        play.finish();
        Due.is("4, 8 and 16", play.x.count(7) - 61, 28);
        Due.is("16 of them are there", play.x.count(6) - 32, 16);
    }

    private static void countsUpvalues() {
        Due.by("the upvalues of each closure");
        Play play = Play.of("main 8\n CLOSURE 0 none\n CLOSURE 0 three\n CLOSURE 0 three\n GLOBAL 0 'wrap'\n GLOBAL 1 'print'\n CALL 0 2 1\n RETURN 0 1\n function none 0 0 2\n RETURN 0 1\n end\n function three 0 0 2 r0 u0 r1\n RETURN 0 1\n end");
        play.x.run(1);
        Due.is("of none", play.x.count(7), 61);
        play.x.run(1);
        Due.is("of three", play.x.count(7), 64);
        play.x.run(1);
        Due.is("of three again", play.x.count(7), 67);
        play.x.run(3);
        Due.is("wrap's has none", play.x.count(7), 67);
        String most = "main 4\n CLOSURE 1 f\n CALL 1 1 1\n RETURN 0 1\n function f 0 0 3%s\nbody:\n CLOSURE 1 g\n JMP 0 >body\n function g 0 0 2 r0 r0 r0 r0 r0 r0 r0\n RETURN 0 1\n end\n end";
        Play just = Play.of(String.format(most, " u0 u0 u0"));
        Due.is("the end", just.finish(), "error 11");
        Due.is("just 300,000", just.x.count(7), 300_000);
        Play before = Play.of(String.format(most, " u0 u0 u0 u0"));
        Due.is("the end", before.finish(), "error 11");
        Due.is("the last 7 are one too many", before.x.count(7), 300_000 - 7 + 1);
    }

    /** "a" doubled 17 times takes 262,143 bytes; the last string and k of its bytes take 131,072 + 2 * k more. */
    private static void makesUpTo400000Bytes() {
        Due.by("400,000 bytes of strings");
        int k = (400_000 - 335 - 262_143 - 131_072) / 2;
        String program = "main 8\n LOADK 0 'a'\n LOADK 1 #1\n LOADK 2 #17\n LOADK 3 #1\n FORPREP 1 >next\nbody:\n MOVE 5 0\n MOVE 6 0\n CONCAT 0 5 6\nnext:\n FORLOOP 1 >body\n"
            + "GLOBAL 1 'sub'\n MOVE 2 0\n LOADK 3 #1\n LOADK 4 #%d\n CALL 1 4 2\n CONCAT 0 0 1\n LEN 0 0\n RETURN 0 2";
        Play most = Play.of(String.format(program, k));
        Due.is("just 400,000", most.finish() + " " + most.x.count(8), (131_072 + k) + " 400000");
        Play over = Play.of(String.format(program, k + 1));
        Due.is("two more", over.finish(), "error 11");
        Due.is("the last string is not made", over.x.count(8), 335 + 262_143 + k + 1);
        // a constant of one byte more
        Play one = Play.of(String.format(program, k).replace("RETURN 0 2", "RETURN 0 2\n LOADK 0 'b'\n RETURN 0 2"));
        // 782 bytes doubled 8 times are 399,602 in all; the last string twice is longer than all may be
        Play longest = Play.of("main 8\n LOADK 0 '" + "w".repeat(782) + "'\n LOADK 1 #1\n LOADK 2 #8\n LOADK 3 #1\n FORPREP 1 >next\nbody:\n MOVE 5 0\n MOVE 6 0\n CONCAT 0 5 6\nnext:\n FORLOOP 1 >body\n MOVE 1 0\n CONCAT 0 0 1\n RETURN 0 1");
        Due.is("one string of more than 400,000", longest.finish() + " " + longest.x.count(8), "error 11 " + (335 + 399_602));
        Due.is("one more", one.finish(), "error 11");
        Due.is("the last string is not made", one.x.count(8), 335 + 1 + 262_143 + k);
    }

    private static void countsBytesOfNewStringsAlone() {
        Due.by("bytes of strings (only of those that are made)");
        Play play = Play.of("main 6\n LOADK 0 #1\n LOADK 1 #23\n CONCAT 2 0 1\n CONCAT 3 0 1\n LOADK 4 'ty'\n LOADK 5 'pe'\n CONCAT 4 4 5\n GLOBAL 0 'char'\n CALL 0 1 2\n RETURN 0 1");
        Due.is("at first", play.x.count(8), 335 + 4);
        play.x.run(3);
        Due.is("123", play.x.count(8), 335 + 4 + 3);
        play.x.run(7);
        Due.is("nothing more", play.x.count(8), 335 + 4 + 3);
    }

    private static void countsAllLoadsTogether() {
        Due.by("MADE IN ALL, by all loads together");
        Play play = Play.of(GARBAGE);
        play.x.run(2 * 30_000);
        Due.is("the first load", play.x.count(4), 30_060);
        play.put(Assembler.chunk(GARBAGE));
        play.x.load();
        Due.is("begins anew", play.x.count(4), 60);
        Due.is("the second load", play.finish(), "error 11");
        Due.is("what was left for it", play.x.count(4), 60_000 - 30_060);
        play.put(Assembler.chunk(GARBAGE));
        Due.isThrown("a third load", () -> play.x.load(), IllegalStateException.class);
    }

    /** With two tables kept each collection comes 1,303 tables behind the one before: the 46th would at 60,000. */
    private static void looksAtAllThatIsMadeFirst() {
        Due.by("ERROR 11 (looked at before that");
        Play play = Play.of("main 3\n NEWTABLE 1\nbody:\n NEWTABLE 0\n JMP 0 >body");
        play.x.limit(62 + 1_303);
        Due.is("the end", play.finish(), "error 11");
        Due.is("existing, made and collections", play.counts(3, 5), (62 + 1_303) + " 60000 45");
    }

    /** A table of 16,384 that is full, beside others of 2,044 in all that are garbage. */
    private static void looksAtAllRoomFirst() {
        Due.by("ERROR 11 (looked at before that");
        String program = "main 12\n NEWTABLE 0\n LOADK 1 #1\n LOADK 2 #16384\n LOADK 3 #1\n FORPREP 1 >next\nbody:\n SETTABLE 0 4 4\nnext:\n FORLOOP 1 >body\n LOADK 1 #1\n LOADK 2 #%d\n LOADK 3 #1\n FORPREP 1 >last\n"
            + "more:\n NEWTABLE 5\n LOADK 6 #1\n LOADK 7 #513\n LOADK 8 #1\n FORPREP 6 >fill\nput:\n SETTABLE 5 9 9\nfill:\n FORLOOP 6 >put\nlast:\n FORLOOP 1 >more\n"
            + "GLOBAL 5 'pcall'\n GLOBAL 6 'rawset'\n MOVE 7 0\n LOADK 8 #0\n LOADK 9 #1\n CALL 5 5 0\n RETURN 5 0";
        int fits = (300_000 - 32_768 - 61 - 32_764) / 2_044;
        Due.is("with room to make, there is none to be had", Play.answer(String.format(program, fits)), "false 10");
        Due.is("without room to make", Play.answer(String.format(program, fits + 1)), "error 11");
    }

    private static void needsNoMoreThanTheLimit() {
        Due.by("IllegalStateException: it needs more than LIMIT OBJECTS (nothing is collected in load)");
        for (int strings : new int[] {139, 140, 141, 142, 143, 144, 300}) {
            Play play = new Play();
            play.x.limit(200);
            StringBuilder text = new StringBuilder("main 2\n");
            for (int i = 0; i < strings; i++) {
                text.append("LOADK 0 'n").append(i).append("'\n");
            }
            loads(play, text + "RETURN 0 1", strings <= 140);
            Due.is("existing and collections", play.x.count(3) + " " + play.x.count(5), (strings <= 140 ? 60 + strings : 0) + " 0");
        }
    }

    private static void loads(Play play, String program, boolean right) {
        play.put(Assembler.chunk(program));
        String got = "loaded";
        try {
            play.x.load();
        } catch (IllegalStateException e) {
            got = "IllegalStateException";
        }
        Due.is("load", got, right ? "loaded" : "IllegalStateException");
        Due.is("frames and fault behind it", play.x.count(9) + " " + play.x.fault(0) + " " + play.x.fault(1), (right ? 1 : 0) + " 0 -1");
    }

    private static void needsNoMoreThanMayBeMade() {
        Due.by("or what may be made in all, before the first STEP (there is no CHUNK then, and no FAULT)");
        for (int left : new int[] {61, 60, 59, 58, 57, 1}) {
            Play play = Play.of(GARBAGE);
            play.x.run(100_000);
            play.x.run(2 * (60_000 - 60 - left - 50_000));
            Due.is("made", play.x.count(4), 60_000 - left);
            loads(play, "main 2\n RETURN 0 1", left >= 60);
        }
        // closures of 7 upvalues, and a last one of some more
        for (int left : new int[] {62, 61, 60, 59, 57, 40}) {
            Play play = Play.of("main 8\n LOADK 1 #1\n LOADK 2 #42839\n LOADK 3 #1\n FORPREP 1 >next\nbody:\n CLOSURE 5 g\nnext:\n FORLOOP 1 >body\n CLOSURE 5 h\n RETURN 0 1\n"
                + "function g 0 0 2" + " u0".repeat(7) + "\n RETURN 0 1\n end\n function h 0 0 2" + " u0".repeat(66 - left) + "\n RETURN 0 1\n end");
            play.finish();
            Due.is("room made", play.x.count(7), 300_000 - left);
            loads(play, "main 2\n RETURN 0 1", left >= 61);
        }
        // "a" doubled, and two of its strings more, leave 500 bytes
        for (int constant : new int[] {164, 165, 166}) {
            Play play = Play.of("main 8\n LOADK 0 'a'\n LOADK 1 #1\n LOADK 2 #17\n LOADK 3 #1\n FORPREP 1 >next\nbody:\n MOVE 5 0\n MOVE 6 0\n CONCAT 0 5 6\nnext:\n FORLOOP 1 >body\n"
                + "GLOBAL 1 'sub'\n MOVE 2 0\n LOADK 3 #1\n LOADK 4 #2975\n CALL 1 4 2\n CONCAT 0 0 1\n LEN 0 0\n RETURN 0 2");
            play.finish();
            Due.is("bytes made", play.x.count(8), 399_500);
            loads(play, "main 2\n LOADK 0 '" + "c".repeat(constant) + "'\n RETURN 0 1", constant <= 165);
        }
    }
}
