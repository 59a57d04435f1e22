/** What a collection keeps and what goes, and that it is never noticed but by its counts. */
public final class CollectionTest {
    public static void main(String[] args) {
        keepsWhatRegistersReach();
        keepsKeysOfDeadEntries();
        keepsWhatCoroutinesReach();
        keepsRunningCoroutines();
        letsGoOfWhatHasBeenHandedOn();
        letsGoOfWhatAnErrorLeft();
        keepsOpenRows();
        keepsWhatIsInHand();
        letsGoOfWhatIsClosedOrLeft();
        makesStringsAgain();
        comesBeforeTheLimit();
        comesBeforeTooMuchRoom();
        isCalledByPrograms();
        isNotNoticed();
        Due.end();
    }

    /** What a program's "collect" gives at its end, above the 60 that every program has. */
    private static void kept(String program, int want) {
        Play play = Play.of(program);
        play.finish();
        Due.is(program.replace('\n', ';'), play.x.value(0) - 60, want);
    }

    private static final String COLLECT = "\n GLOBAL 7 'collect'\n CALL 7 1 2\n RETURN 7 2\n";

    private static void keepsWhatRegistersReach() {
        kept("main 8\n NEWTABLE 0" + COLLECT, 1);
        kept("main 8\n NEWTABLE 0\n NEWTABLE 0" + COLLECT, 1);
        kept("main 8\n NEWTABLE 0\n NEWTABLE 1\n SETTABLE 0 #1 1\n LOADNIL 1 0" + COLLECT, 2);
        kept("main 8\n NEWTABLE 0\n NEWTABLE 1\n SETTABLE 0 1 #1\n LOADNIL 1 0" + COLLECT, 2);
        kept("main 8\n NEWTABLE 0\n NEWTABLE 1\n GLOBAL 2 'setmetatable'\n MOVE 3 0\n MOVE 4 1\n CALL 2 3 1\n LOADNIL 1 5" + COLLECT, 2);
        kept("main 8\n NEWTABLE 0\n SETTABLE 0 #1 0\n LOADNIL 0 0" + COLLECT, 0);
        kept("main 8\n LOADK 0 #12\n LOADK 1 #34\n CONCAT 2 0 1" + COLLECT, 1);
        kept("main 8\n LOADK 0 #12\n LOADK 1 #34\n CONCAT 2 0 1\n LOADNIL 2 0" + COLLECT, 0);
        kept("main 8\n NEWTABLE 0\n CLOSURE 1 f\n JMP 1 0\n LOADNIL 0 0" + COLLECT + "function f 0 0 2 r0\n RETURN 0 1\n end", 3);
    }

    private static void keepsKeysOfDeadEntries() {
        kept("main 8\n NEWTABLE 0\n NEWTABLE 1\n SETTABLE 0 1 #1\n SETTABLE 0 1 nil\n LOADNIL 1 0" + COLLECT, 2);
        kept("main 8\n NEWTABLE 0\n NEWTABLE 1\n SETTABLE 0 1 #1\n SETTABLE 0 1 nil\n LOADNIL 1 0\n SETTABLE 0 #1 #1\n SETTABLE 0 #2 #1\n SETTABLE 0 #3 #1\n SETTABLE 0 #4 #1" + COLLECT, 1);
    }

    private static void keepsWhatCoroutinesReach() {
        String f = "\n function f 1 1 4 u0\n NEWTABLE 1\n GLOBAL 2 'yield'\n CALL 2 1 1\n RETURN 0 1\n end";
        kept("main 8\n GLOBAL 0 'create'\n CLOSURE 1 f\n CALL 0 2 2\n LOADNIL 1 6" + COLLECT + f, 2);
        kept("main 8\n GLOBAL 0 'create'\n CLOSURE 1 f\n CALL 0 2 2\n GLOBAL 1 'resume'\n MOVE 2 0\n NEWTABLE 3\n NEWTABLE 4\n CALL 1 4 1\n LOADNIL 1 6" + COLLECT + f, 5);
        kept("main 8\n GLOBAL 0 'create'\n CLOSURE 1 f\n CALL 0 2 2\n GLOBAL 1 'resume'\n MOVE 2 0\n NEWTABLE 3\n NEWTABLE 4\n CALL 1 4 1\n LOADNIL 0 7" + COLLECT + f, 0);
        kept("main 8\n GLOBAL 0 'create'\n CLOSURE 1 f\n CALL 0 2 2\n GLOBAL 1 'resume'\n MOVE 2 0\n NEWTABLE 3\n NEWTABLE 4\n CALL 1 4 1\n GLOBAL 1 'resume'\n MOVE 2 0\n CALL 1 2 1\n LOADNIL 1 6" + COLLECT + f, 1);
        kept("main 8\n GLOBAL 0 'wrap'\n CLOSURE 1 f\n CALL 0 2 2\n LOADNIL 1 6" + COLLECT + f, 3);
        Play inner = Play.of("main 8\n GLOBAL 0 'wrap'\n CLOSURE 1 g\n CALL 0 2 2\n LOADNIL 1 6\n TAILCALL 0 1\n function g 0 0 2 u0\n GLOBAL 0 'collect'\n CALL 0 1 2\n RETURN 0 2\n end");
        Due.is("the waiting wrapper, the running coroutine, its closure, the main's variable, but main's closure no more", inner.finish(), "62");
    }

    private static void keepsRunningCoroutines() {
        Play.due("main 8\n GLOBAL 0 'resume'\n GLOBAL 1 'create'\n CLOSURE 2 g\n CALL 1 2 2\n TAILCALL 0 2\n"
            + "function g 0 0 4 u0\n NEWTABLE 0\n SETTABLE 0 #1 #3\n GLOBAL 1 'collect'\n CALL 1 1 2\n NEWTABLE 2\n NEWTABLE 3\n GETTABLE 0 0 #1\n RETURN 0 3\n end", "true 3 62");
    }

    /** What a __concat is called with waits no more; what is still to be joined does. */
    private static void letsGoOfWhatHasBeenHandedOn() {
        String program = "main 10\n NEWTABLE 0\n NEWTABLE 1\n CLOSURE 2 f\n SETTABLE 1 '__concat' 2\n GLOBAL 2 'setmetatable'\n MOVE 3 0\n MOVE 4 1\n CALL 2 3 1\n LOADNIL 2 6\n"
            + "MOVE 4 0\n LOADK 5 #12\n LOADK 6 #34\n CONCAT 7 4 6\n RETURN 7 2\n function f %d 0 3 u0\n GLOBAL 2 'collect'\n CALL 2 1 2\n RETURN 2 2\n end";
        Play.due(String.format(program, 0), "63");
        Play.due(String.format(program, 2), "64");
    }

    private static void letsGoOfWhatAnErrorLeft() {
        Play play = Play.of("main 4\n GLOBAL 0 'pcall'\n GLOBAL 1 'error'\n NEWTABLE 2\n CALL 0 3 1\n LOADNIL 2 0\n RETURN 0 1");
        play.x.run(5);
        Due.is("an error that is forgotten", play.x.collect(), 60);
        Play row = Play.of("main 4\n GLOBAL 0 'pcall'\n CLOSURE 1 f\n CALL 0 2 1\n LOADNIL 1 1\n RETURN 0 1\n function f 0 0 4\n LOADNIL 0 0\n LOADK 1 #1\n CLOSURE 2 g\n CALL 2 1 0\n CALL 0 0 1\n RETURN 0 1\n"
            + "function g 0 0 250\n NEWTABLE 0\n RETURN 0 251\n end\n end");
        row.x.run(3 + 6 + 2);
        Due.is("an open row that was too long", row.x.collect(), 60);
        Play ended = Play.of("main 4\n GLOBAL 0 'create'\n CLOSURE 1 f\n CALL 0 2 2\n GLOBAL 1 'resume'\n MOVE 2 0\n CALL 1 2 1\n LOADNIL 1 1\n RETURN 0 1\n"
            + "function f 0 0 4\n CLOSURE 1 g\n ADD 1 1 1\n RETURN 0 1\n function g 0 0 2 r0\n RETURN 0 1\n end\n end");
        ended.x.run(9);
        Due.is("the variables of a coroutine that ended by an error", ended.x.collect(), 61);
    }

    private static void keepsOpenRows() {
        Play play = Play.of("main 4\n CLOSURE 0 f\n CALL 0 1 0\n RETURN 0 0\n function f 0 0 4\n NEWTABLE 0\n NEWTABLE 1\n RETURN 0 3\n end");
        play.x.run(5);
        Due.is("two tables in the open row", play.x.collect(), 63);
        Due.is("they are given back", play.finish(), "table:61 table:62");
        Play list = Play.of("main 4\n NEWTABLE 0\n CLOSURE 1 f\n CALL 1 1 0\n SETLIST 0 0 1\n LOADNIL 0 1\n RETURN 0 1\n function f 0 0 4\n NEWTABLE 0\n RETURN 0 2\n end");
        list.x.run(6);
        Due.is("in a list", list.x.collect(), 63);
        list.x.run(1);
        Due.is("used and forgotten", list.x.collect(), 60);
    }

    /** At the limit each of these makes something, with nothing but hands to hold what it needs. */
    private static void keepsWhatIsInHand() {
        String fill = "main 8\n NEWTABLE 0\n LOADK 1 #1\n LOADK 2 #%d\n LOADK 3 #1\n FORPREP 1 >next\nbody:\n NEWTABLE 5\n SETTABLE 0 4 5\nnext:\n FORLOOP 1 >body\n LOADNIL 1 6\n";
        String f = "\n function join 0 0 4 u0\n GLOBAL 0 'tostring'\n LOADK 1 #12\n LOADK 2 #345\n CONCAT 1 1 2\n TAILCALL 0 2\n end"
            + "\n function wrapped 0 0 4 u0\n GLOBAL 0 'wrap'\n CLOSURE 1 inner\n TAILCALL 0 2\n function inner 0 0 2\n LOADK 0 #77\n RETURN 0 2\n end\n end";
        for (int many = 120; many < 140; many++) {
            Play play = Play.of(String.format(fill, many) + "CLOSURE 1 wrapped\n CALL 1 1 2\n LOADNIL 2 0\n NEWTABLE 3\n NEWTABLE 3\n CALL 1 1 2\n GLOBAL 2 'sub'\n GLOBAL 3 'tostring'\n LOADK 4 #98765\n CALL 3 2 2\n LOADK 4 #2\n LOADK 5 #4\n CALL 2 4 2\n RETURN 1 3" + f);
            play.x.limit(200);
            String got = play.finish();
            Due.is("with " + many + " tables", got.equals("error 10") ? "77 '876'" : got, "77 '876'");
        }
        Play four = Play.of("main 8\n LOADK 0 #10\n LOADK 1 #20\n LOADK 2 #30\n LOADK 3 #40\nbody:\n CONCAT 4 0 3\n LOADK 5 'x'\n MOVE 6 0\n CONCAT 5 5 6\n ADD 0 0 #1\n EQ 0 0 #2010\n JMP 0 >body\n RETURN 4 3");
        four.x.limit(200);
        Due.is("strings joined while others go", four.finish(), "'2009203040' 'x2009'");
    }

    private static void letsGoOfWhatIsClosedOrLeft() {
        String f = "\n function f 0 0 4 u0\n NEWTABLE 0\n NEWTABLE 1\n GLOBAL 2 'collect'\n %s\n end";
        Due.is("a frame's registers", Play.answer("main 4\n CLOSURE 0 f\n CALL 0 1 2\n RETURN 0 2" + String.format(f, "CALL 2 1 2\n RETURN 2 2")), "63");
        Due.is("not of a frame that is called in place of", Play.answer("main 4\n CLOSURE 0 f\n CALL 0 1 2\n RETURN 0 2" + String.format(f, "TAILCALL 2 1")), "61");
        Due.is("nor what is given to collect itself, which makes nothing", Play.answer("main 4\n GLOBAL 0 'collect'\n NEWTABLE 1\n TAILCALL 0 2"), "58");
        String none = "\n function none 0 0 4 u0\n GLOBAL 0 'collect'\n CALL 0 1 2\n RETURN 0 2\n end\n function g 0 0 4\n NEWTABLE 0\n RETURN 0 2\n end";
        Due.is("nor an open row that has been used for arguments that none takes", Play.answer("main 4\n CLOSURE 0 none\n CLOSURE 1 g\n CALL 1 1 0\n CALL 0 0 2\n RETURN 0 2" + none), "62");
        Due.is("nor an error that is forgotten", Play.answer("main 4\n CLOSURE 0 g\n CALL 0 1 1\n GLOBAL 0 'collect'\n CALL 0 1 2\n RETURN 0 2\n"
            + "function g 0 0 4 u0\n GLOBAL 0 'pcall'\n GLOBAL 1 'error'\n NEWTABLE 2\n CALL 0 3 1\n RETURN 0 1\n end"), "60");
        Due.is("main in place of itself", Play.answer("main 4\n NEWTABLE 1\n GLOBAL 0 'collect'\n TAILCALL 0 1"), "58");
    }

    private static void makesStringsAgain() {
        Play play = Play.of("main 4\n LOADK 0 #1\n LOADK 1 #2\n CONCAT 2 0 1\n LOADNIL 2 0\n GLOBAL 3 'collect'\n CALL 3 1 1\n CONCAT 2 0 1\n CONCAT 2 0 1\n RETURN 2 2");
        Due.is("the string", play.finish(), "'12'");
        Due.is("made twice, not three times", play.counts(3, 4), "61 62");
        Due.is("its bytes", play.x.count(8), 335 + 4);
    }

    private static void comesBeforeTheLimit() {
        Play play = Play.of("main 5\n LOADK 1 #1\n LOADK 2 #500\n LOADK 3 #1\n FORPREP 1 >next\nbody:\n NEWTABLE 0\nnext:\n FORLOOP 1 >body\n RETURN 0 2");
        play.x.limit(200);
        play.finish();
        // 140 tables fill it; each collection leaves the one in a register: 139 more each time
        Due.is("collections of 500 tables", play.x.count(5), 3);
        Due.is("existing", play.x.count(3), 61 + 500 - 140 - 139 - 139);
        Play rooms = Play.of("main 8\n LOADK 1 #1\n LOADK 2 #16000\n LOADK 3 #1\n FORPREP 1 >next\nbody:\n NEWTABLE 5\n SETTABLE 5 #1 #1\nnext:\n FORLOOP 1 >body\n RETURN 0 1");
        rooms.x.limit(4000);
        rooms.finish();
        Due.is("made", rooms.x.count(4), 16_060);
    }

    /** Rooms of 16,384, 8,192 twice, 4,096 and 2,048 beside the globals' 32, then rooms of 4 up to 40,000. */
    private static void comesBeforeTooMuchRoom() {
        StringBuilder text = new StringBuilder("main 14\n");
        int[] entries = {8193, 4097, 4097, 2049, 1025};
        for (int i = 0; i < entries.length; i++) {
            text.append("NEWTABLE ").append(i).append("\n LOADK 6 #1\n LOADK 7 #").append(entries[i]).append("\n LOADK 8 #1\n FORPREP 6 >n").append(i).append("\nb").append(i)
                .append(":\n SETTABLE ").append(i).append(" 9 9\nn").append(i).append(":\n FORLOOP 6 >b").append(i).append("\n");
        }
        text.append("LOADK 6 #1\n LOADK 7 #%d\n LOADK 8 #1\n LOADNIL 10 0\n FORPREP 6 >last\nmore:\n NEWTABLE 11\n SETTABLE 11 #1 10\n SETTABLE 11 #2 true\n MOVE 10 11\nlast:\n FORLOOP 6 >more\n RETURN 6 2");
        Play just = Play.of(String.format(text.toString(), 264));
        just.finish();
        Due.is("rooms and collections", just.x.count(6) + " " + just.x.count(5) + " " + just.results(), "40000 0 265");
        Play over = Play.of(String.format(text.toString(), 265));
        Due.is("one more", over.finish(), "error 10");
        Due.is("rooms and collections", over.x.count(6) + " " + over.x.count(5), "40000 1");
    }

    private static void isCalledByPrograms() {
        Play.due("main 4\n NEWTABLE 0\n NEWTABLE 0\n GLOBAL 1 'collect'\n CALL 1 1 0\n RETURN 1 0", "61");
        Play play = Play.of("main 4\n GLOBAL 0 'collect'\n CALL 0 1 1\n GLOBAL 0 'collect'\n CALL 0 1 1\n RETURN 0 1");
        play.finish();
        Due.is("collections", play.x.count(5), 2);
    }

    /** One program with tables, strings, closures, coroutines and errors, at each limit and with collections between its steps. */
    private static void isNotNoticed() {
        Due.by("a collector that keeps memory small and is never noticed but by its counts");
        String program = "main 12\n NEWTABLE 0\n LOADK 1 #1\n LOADK 2 #60\n LOADK 3 #1\n LOADK 9 ''\n FORPREP 1 >next\nbody:\n"
            + "GLOBAL 5 'wrap'\n CLOSURE 6 f\n CALL 5 2 2\n MOVE 6 5\n MOVE 7 4\n CALL 6 2 2\n MOVE 7 6\n MOVE 8 9\n CONCAT 9 7 8\n GLOBAL 10 'sub'\n MOVE 11 9\n CALL 10 2 2\n"
            + "GLOBAL 6 'pcall'\n MOVE 7 5\n LOADK 8 '.'\n CALL 6 3 3\n MOVE 8 9\n CONCAT 9 7 8\n LEN 6 9\n LT 1 6 #200\n JMP 0 >short\n GLOBAL 6 'sub'\n MOVE 7 9\n LOADK 8 #1\n CALL 6 3 2\n MOVE 9 6\n LOADK 9 'cut'\nshort:\n"
            + "SETTABLE 0 4 9\n SUB 6 4 #3\n SETTABLE 0 6 nil\nnext:\n FORLOOP 1 >body\n GETTABLE 5 0 #60\n GETTABLE 6 0 #58\n GETTABLE 7 0 #57\n RETURN 5 4\n"
            + "function f 1 0 6 u0\n NEWTABLE 1\n SETTABLE 1 'n' 0\n CLOSURE 2 g\n CALL 2 1 2\n GLOBAL 3 'yield'\n MOVE 4 2\n CALL 3 2 2\n CLOSURE 4 g\n CALL 4 1 2\n CONCAT 3 3 4\n RETURN 3 2\n"
            + "function g 0 0 3 r1 u0\n GETTABUP 0 0 'n'\n LOADK 1 ','\n CONCAT 0 0 1\n RETURN 0 2\n end\n end";
        String want = Play.answer(program);
        Due.is("it ends well", want.startsWith("'") ? "yes" : want, "yes");
        for (int limit : new int[] {200, 220, 300, 4000}) {
            Play play = Play.of(program);
            play.x.limit(limit);
            Due.is("at limit " + limit, play.finish(), want);
        }
        Play often = Play.of(program);
        while (often.x.run(1) == 0) {
            often.x.collect();
        }
        Due.is("with a collection between all steps", often.results(), want);
    }
}
