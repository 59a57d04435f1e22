/** COLLECTION: what is REACHED and what is not, item by item of the document's list. */
public final class BoundaryCollectionTest {
    private static final String COLLECT = "\n GLOBAL 7 'collect'\n CALL 7 1 2\n RETURN 7 2\n";
    /** Gives way once, with a table in R(1). */
    private static final String WAY = "\n function way 1 1 4 u0\n NEWTABLE 1\n GLOBAL 2 'yield'\n CALL 2 1 1\n RETURN 0 1\n end";

    public static void main(String[] args) {
        letsGoWhatIsNotReached();
        countsNoMoreWhatGoes();
        reachesGlobals();
        reachesTheMainCoroutine();
        reachesResultsOrError();
        reachesConstants();
        reachesNames();
        reachesTheRunningOnes();
        reachesWhatHasNotBegun();
        reachesRegisters();
        reachesFurtherArguments();
        reachesOpenRows();
        reachesFunctionsOfFrames();
        reachesWhatWaits();
        reachesVariables();
        reachesUpvalues();
        reachesKeysAndValues();
        reachesKeysOfDeadEntries();
        reachesMetatables();
        reachesWhatIsInHand();
        isDoneBetweenTwoSteps();
        isDoneByPrograms();
        Due.end();
    }

    /** What the program's "collect" gives, above the 60 that every program has. */
    private static void kept(String program, int want) {
        Play play = Play.of(program);
        play.finish();
        Due.is(program.replace('\n', ';'), play.x.value(0) - 60, want);
    }

    private static void letsGoWhatIsNotReached() {
        Due.by("COLLECTION: all that can not be REACHED goes");
        kept("main 8" + COLLECT, 0);
        kept("main 8\n NEWTABLE 0\n LOADNIL 0 0" + COLLECT, 0);
        kept("main 8\n NEWTABLE 0\n SETTABLE 0 #1 0\n SETTABLE 0 0 #1\n LOADNIL 0 0" + COLLECT, 0);
        kept("main 8\n LOADK 0 #1\n LOADK 1 #2\n CONCAT 0 0 1\n LOADNIL 0 0" + COLLECT, 0);
        kept("main 8\n CLOSURE 0 f\n LOADNIL 0 0" + COLLECT + "function f 0 0 2\n RETURN 0 1\n end", 0);
        kept("main 8\n GLOBAL 0 'wrap'\n GLOBAL 1 'type'\n CALL 0 2 2\n LOADNIL 0 0" + COLLECT, 0);
    }

    private static void countsNoMoreWhatGoes() {
        Due.by("tables and coroutines that go are no more counted");
        Play play = Play.of("main 8\n NEWTABLE 0\n SETTABLE 0 #1 #1\n GLOBAL 1 'create'\n GLOBAL 2 'type'\n CALL 1 2 2\n LOADNIL 0 1\n RETURN 0 1");
        play.x.run(5);
        Due.is("rooms and coroutines", play.x.count(6) + " " + play.x.count(11), "36 2");
        play.x.collect();
        Due.is("reached", play.x.count(6) + " " + play.x.count(11), "36 2");
        play.x.run(1);
        play.x.collect();
        Due.is("not reached", play.x.count(6) + " " + play.x.count(11), "32 1");
        Due.is("made", play.x.count(4) + " " + play.x.count(7), "62 65");
    }

    private static void reachesGlobals() {
        Due.by("REACHED: GLOBALS");
        kept("main 8\n NEWTABLE 0\n SETGLOBAL 'type' 0\n LOADNIL 0 0" + COLLECT, 1);
        String held = "main 8\n NEWTABLE 0\n NEWTABLE 1\n SETTABLE 0 #1 1\n NEWTABLE 2\n SETTABLE 1 #1 2\n LOADK 3 #1\n LOADK 4 #2\n CONCAT 3 3 4\n SETTABLE 2 #1 3\n SETGLOBAL 'type' 0\n LOADNIL 0 4\n GLOBAL 7 'collect'\n CALL 7 1 1\n GLOBAL 7 'collect'\n CALL 7 1 1\n ";
        kept(held + COLLECT, 4);
        kept(held + "SETGLOBAL 'type' nil" + COLLECT, 0);
        kept(held + "GLOBAL 0 'type'\n SETTABLE 0 #1 nil\n LOADNIL 0 0" + COLLECT, 1);
        Play play = Play.of("main 8\n NEWTABLE 0\n SETGLOBAL 'type' 0\n LOADNIL 0 0\n SETUPVAL 0 0\n RETURN 0 1");
        play.finish();
        Due.is("also when no variable has them", play.x.collect(), 59);
    }

    private static void reachesTheMainCoroutine() {
        Due.by("the main coroutine");
        Play play = Play.of("main 2\n RETURN 0 1");
        play.finish();
        Due.is("globals, 56 names, the main coroutine", play.x.collect() + " " + play.x.count(11), "58 1");
    }

    private static void reachesResultsOrError() {
        Due.by("its results or ERROR");
        Play results = Play.of("main 4\n NEWTABLE 0\n NEWTABLE 1\n NEWTABLE 2\n RETURN 0 3");
        results.finish();
        Due.is("two of three tables", results.x.collect(), 60);
        Due.is("they stay", results.results(), "table:60 table:61");
        Play error = Play.of("main 4\n GLOBAL 0 'error'\n NEWTABLE 1\n NEWTABLE 2\n CALL 0 2 1\n RETURN 0 1");
        error.finish();
        Due.is("the error alone", error.x.collect(), 59);
        Due.is("it stays", error.results(), "table:60");
    }

    private static void reachesConstants() {
        Due.by("all constants' strings of the CHUNK");
        Play play = Play.of("main 4\n RETURN 0 1\n LOADK 0 'one'\n RETURN 0 1\n function f 0 0 2\n LOADK 0 'two'\n RETURN 0 1\n end");
        Due.is("of all prototypes", play.x.collect(), 62);
        play.finish();
        Due.is("also behind the end", play.x.collect(), 60);
    }

    private static void reachesNames() {
        Due.by("names of BUILT IN ones, EVENTS and what \"type\" and \"status\" give");
        Play play = Play.of("main 8\n GETUPVAL 0 0\n GLOBAL 1 'next'\n MOVE 2 0\n LOADNIL 3 0\n JMP 0 >in\nbody:\n SETTABLE 0 4 nil\nin:\n TFORCALL 1 1\n TFORLOOP 3 >body\n RETURN 0 1");
        play.finish();
        Due.is("also when the globals are empty", play.x.collect(), 58);
        Due.is("and none is made again", play.x.count(4), 60);
    }

    private static void reachesTheRunningOnes() {
        Due.by("the running coroutine and those that wait for one that they resumed");
        // f waits and g runs, each with its closure and a table; the globals' variable; main's closure has gone
        Play.due("main 6\n GLOBAL 0 'resume'\n GLOBAL 1 'create'\n CLOSURE 2 f\n CALL 1 2 2\n TAILCALL 0 2\n"
            + "function f 0 0 6 u0\n NEWTABLE 5\n GLOBAL 0 'resume'\n GLOBAL 1 'create'\n CLOSURE 2 g\n CALL 1 2 2\n LOADNIL 2 0\n CALL 0 2 3\n GLOBAL 3 'rawlen'\n MOVE 4 5\n CALL 3 2 2\n MOVE 2 3\n RETURN 1 3\n"
            + "function g 0 0 4 u0\n NEWTABLE 0\n GLOBAL 1 'collect'\n CALL 1 1 2\n NEWTABLE 2\n NEWTABLE 3\n RETURN 1 2\n end\n end", "true " + (58 + 2 * 3 + 1) + " 0");
    }

    private static void reachesWhatHasNotBegun() {
        Due.by("from a coroutine: its function and arguments before it began");
        kept("main 8\n GLOBAL 0 'create'\n CLOSURE 1 way\n CALL 0 2 2\n LOADNIL 1 5" + COLLECT + WAY, 2);
        kept("main 8\n GLOBAL 0 'create'\n GLOBAL 1 'wrap'\n CLOSURE 2 way\n CALL 1 2 2\n CALL 0 2 2\n LOADNIL 1 5" + COLLECT + WAY, 4);
    }

    private static void reachesRegisters() {
        Due.by("all registers");
        kept("main 8\n NEWTABLE 0\n NEWTABLE 1\n NEWTABLE 6\n NEWTABLE 6" + COLLECT, 3);
        kept("main 8\n GLOBAL 0 'create'\n CLOSURE 1 way\n CALL 0 2 2\n GLOBAL 1 'resume'\n MOVE 2 0\n NEWTABLE 3\n CALL 1 3 1\n LOADNIL 1 5" + COLLECT + WAY, 4);
        String f = "\n function f 0 0 4 u0\n NEWTABLE 3\n GLOBAL 0 'collect'\n CALL 0 1 2\n RETURN 0 2\n end";
        kept("main 8\n NEWTABLE 6\n CLOSURE 0 f\n CALL 0 1 2\n RETURN 0 2" + f, 3);
        // a frame that has ended has none
        kept("main 8\n CLOSURE 0 f\n CALL 0 1 1\n LOADNIL 0 0" + COLLECT + f, 0);
    }

    private static void reachesFurtherArguments() {
        Due.by("further arguments");
        String f = "\n function f 1 %d 4 u0\n LOADNIL 0 0\n GLOBAL 1 'collect'\n CALL 1 1 2\n RETURN 1 2\n end\n function g 0 0 4\n NEWTABLE 0\n NEWTABLE 1\n NEWTABLE 2\n RETURN 0 4\n end";
        String call = "main 8\n CLOSURE 0 f\n CLOSURE 1 g\n CALL 1 1 0\n CALL 0 0 2\n RETURN 0 2";
        kept(call + String.format(f, 1), 2 + 2);
        kept(call + String.format(f, 0), 2);
        Play none = Play.of("main 8\n CLOSURE 0 f\n NEWTABLE 1\n LOADNIL 1 0\n CLOSURE 1 g\n CALL 1 1 0\n CALL 0 0 1\n RETURN 0 1\n function f 0 0 2\n LOADNIL 0 0\n RETURN 0 1\n end\n function g 0 0 4\n NEWTABLE 0\n NEWTABLE 1\n RETURN 0 3\n end");
        none.x.run(5 + 3 + 1);
        Due.is("arguments that none takes", none.x.collect(), 62);
        Play given = Play.of("main 8\n GLOBAL 0 'wrap'\n CLOSURE 1 f\n CALL 0 2 2\n MOVE 1 0\n CALL 1 1 1\n CLOSURE 1 g\n MOVE 2 0\n CALL 1 2 1\n RETURN 0 1\n"
            + "function f 0 0 2 u0\n GLOBAL 0 'yield'\n CALL 0 1 1\n LOADNIL 0 0\n RETURN 0 1\n end\n function g 1 0 4\n NEWTABLE 1\n TAILCALL 0 2\n end");
        given.x.run(5 + 2 + 3 + 2 + 1);
        Due.is("what yield is given and does not take: f, its coroutine, wrap's, g", given.x.collect(), 64);
    }

    private static void reachesOpenRows() {
        Due.by("OPEN rows");
        Play play = Play.of("main 8\n CLOSURE 0 g\n CALL 0 1 0\n RETURN 0 0\n function g 0 0 4\n NEWTABLE 0\n NEWTABLE 1\n RETURN 0 3\n end");
        play.x.run(5);
        Due.is("two tables in an open row, and the function", play.x.collect(), 63);
        Due.is("they are given back", play.finish(), "table:61 table:62");
        Play more = Play.of("main 8\n CLOSURE 0 f\n CLOSURE 1 g\n CALL 1 1 0\n CALL 0 0 2\n RETURN 0 2\n function f 0 1 4\n VARARG 0 0\n RETURN 0 0\n end\n function g 0 0 4\n NEWTABLE 0\n NEWTABLE 1\n RETURN 0 3\n end");
        more.x.run(3 + 3 + 1 + 1);
        Due.is("of further arguments", more.x.collect(), 64);
    }

    private static void reachesFunctionsOfFrames() {
        Due.by("and functions of its FRAMES");
        // main's closure, f's, and the variable of the globals; f has overwritten main's R(0)
        kept("main 8\n CLOSURE 0 f\n MOVE 1 0\n LOADNIL 0 0\n CALL 1 1 2\n RETURN 1 2\n function f 0 0 4 u0\n GLOBAL 0 'collect'\n CALL 0 1 2\n RETURN 0 2\n end", 1);
        // the wrapper that waits is held by its frame alone
        kept("main 8\n CLOSURE 0 h\n CALL 0 1 2\n RETURN 0 2\n function h 0 0 4 u0\n GLOBAL 0 'wrap'\n CLOSURE 1 f\n CALL 0 2 2\n LOADNIL 1 0\n CALL 0 1 2\n RETURN 0 2\n"
            + "function f 0 0 4 u0\n GLOBAL 0 'collect'\n CALL 0 1 2\n RETURN 0 2\n end\n end", 4);
        // in place of a frame: neither its registers nor its function
        kept("main 8\n CLOSURE 0 h\n CALL 0 1 2\n RETURN 0 2\n function h 0 0 4 u0\n NEWTABLE 3\n GLOBAL 0 'collect'\n TAILCALL 0 1\n end", 1);
    }

    private static void reachesWhatWaits() {
        Due.by("what waits in them");
        // the string 34 waits while __concat of the left works with the table and it; then nothing holds it
        String program = "main 10\n NEWTABLE 0\n NEWTABLE 1\n CLOSURE 2 f\n SETTABLE 1 '__concat' 2\n GLOBAL 2 'setmetatable'\n MOVE 3 0\n MOVE 4 1\n CALL 2 3 1\n LOADNIL 2 6\n MOVE 4 0\n LOADK 5 #3\n LOADK 6 #4\n CONCAT 7 4 6\n RETURN 7 2\n"
            + "function f %d 0 4 u0\n GLOBAL 2 'collect'\n CALL 2 1 2\n RETURN 2 2\n end";
        kept(String.format(program, 2), 4);
        kept(String.format(program, 0), 3);
        Play joined = Play.of("main 10\n LOADK 0 #1\n LOADK 1 #2\n LOADK 2 #3\n LOADK 3 #4\nbody:\n CONCAT 4 0 3\n ADD 0 0 #1\n EQ 0 0 #500\n JMP 0 >body\n RETURN 4 2");
        joined.x.limit(200);
        Due.is("what is joined waits while more is made", joined.finish(), "'499234'");
    }

    private static void reachesVariables() {
        Due.by("its variables that are not CLOSED");
        String f = "\n function f 0 0 2 r0\n RETURN 0 1\n end";
        kept("main 8\n CLOSURE 1 f\n LOADNIL 1 0" + COLLECT + f, 1);
        kept("main 8\n CLOSURE 1 f\n LOADNIL 1 0\n JMP 1 0" + COLLECT + f, 0);
        kept("main 8\n CLOSURE 1 f\n LOADNIL 1 0\n JMP 2 0" + COLLECT + f, 1);
    }

    private static void reachesUpvalues() {
        Due.by("from closures their upvalues' variables, from these their values");
        String f = "\n function f 0 0 2 r0\n RETURN 0 1\n end";
        kept("main 8\n NEWTABLE 0\n CLOSURE 1 f\n JMP 1 0\n LOADNIL 0 0" + COLLECT + f, 3);
        kept("main 8\n NEWTABLE 0\n CLOSURE 1 f\n LOADNIL 0 0" + COLLECT + f, 2);
        // the variable of a coroutine that is not reached itself
        kept("main 8\n GLOBAL 0 'wrap'\n CLOSURE 1 g\n CALL 0 2 2\n CALL 0 1 2\n LOADNIL 1 5" + COLLECT + "function g 0 0 4 u0\n NEWTABLE 0\n CLOSURE 1 f\n GLOBAL 2 'yield'\n MOVE 3 1\n CALL 2 2 1\n RETURN 0 1" + f + "\n end", 3);
    }

    private static void reachesKeysAndValues() {
        Due.by("from tables all keys (also of DEAD ENTRIES) and values, and the metatable");
        kept("main 8\n NEWTABLE 0\n NEWTABLE 1\n SETTABLE 0 #1 1\n LOADNIL 1 0" + COLLECT, 2);
        kept("main 8\n NEWTABLE 0\n NEWTABLE 1\n SETTABLE 0 1 #1\n LOADNIL 1 0" + COLLECT, 2);
        kept("main 8\n NEWTABLE 0\n NEWTABLE 1\n SETTABLE 0 #1 1\n SETTABLE 0 #1 nil\n LOADNIL 1 0" + COLLECT, 1);
        kept("main 8\n NEWTABLE 0\n LOADK 1 #1\n LOADK 2 #2\n CONCAT 1 1 2\n SETTABLE 0 1 1\n LOADNIL 1 0" + COLLECT, 2);
    }

    private static void reachesKeysOfDeadEntries() {
        Due.by("(also of DEAD ENTRIES)");
        String dead = "main 8\n NEWTABLE 0\n NEWTABLE 1\n SETTABLE 0 1 #1\n SETTABLE 0 1 nil\n LOADNIL 1 0\n SETTABLE 0 #1 #1\n SETTABLE 0 #2 #1\n SETTABLE 0 #3 #1";
        kept(dead + COLLECT, 2);
        // until the room is full and they go
        kept(dead + "\n SETTABLE 0 #4 #1" + COLLECT, 1);
        // and what stood behind the entries that are left is nothing
        kept("main 8\n NEWTABLE 0\n NEWTABLE 1\n SETTABLE 0 'print' #1\n SETTABLE 0 'type' #2\n SETTABLE 0 'next' #3\n SETTABLE 0 'len' 1\n LOADNIL 1 0\n SETTABLE 0 'print' nil\n SETTABLE 0 'type' nil\n SETTABLE 0 'sub' #5\n SETTABLE 0 'len' nil" + COLLECT, 1);
    }

    private static void reachesMetatables() {
        Due.by("and the metatable");
        String set = "main 8\n NEWTABLE 0\n NEWTABLE 1\n GLOBAL 2 'setmetatable'\n MOVE 3 0\n MOVE 4 1\n CALL 2 3 1\n LOADNIL 1 5";
        kept(set + COLLECT, 2);
        kept(set.replace("GLOBAL 2 'setmetatable'", "NEWTABLE 2\n SETTABLE 1 #1 2\n GLOBAL 2 'setmetatable'") + COLLECT, 3);
        kept(set + "\n GLOBAL 2 'setmetatable'\n MOVE 3 0\n CALL 2 3 1\n LOADNIL 2 1" + COLLECT, 1);
    }

    /** At each number of tables that are kept some of what is made here is made at the limit. */
    private static void reachesWhatIsInHand() {
        Due.by("what the instruction or call that makes something has in hand");
        String fill = "main 9\n NEWTABLE 0\n LOADK 1 #1\n LOADK 2 #%d\n LOADK 3 #1\n FORPREP 1 >next\nbody:\n NEWTABLE 5\n NEWTABLE 5\n SETTABLE 0 4 5\nnext:\n FORLOOP 1 >body\n LOADNIL 1 6\n";
        String f = "\n function wrapped 0 0 4 u0\n GLOBAL 0 'wrap'\n CLOSURE 1 inner\n TAILCALL 0 2\n function inner 0 0 2\n LOADK 0 #77\n RETURN 0 2\n end\n end"
            + "\n function text 0 0 4 u0\n GLOBAL 0 'tostring'\n NEWTABLE 1\n TAILCALL 0 2\n end"
            + "\n function part 0 0 5 u0\n GLOBAL 0 'sub'\n LOADK 1 #12\n LOADK 2 #345\n CONCAT 1 1 2\n LOADK 2 #2\n TAILCALL 0 3\n end"
            + "\n function put 0 0 6 u0\n GLOBAL 0 'rawset'\n NEWTABLE 1\n LOADK 2 #9\n LOADK 3 #8\n CONCAT 2 2 3\n LOADK 3 #7\n LOADK 4 #6\n CONCAT 3 3 4\n TAILCALL 0 4\n end";
        String body = "CLOSURE 1 wrapped\n CALL 1 1 2\n CALL 1 1 2\n CLOSURE 2 part\n CALL 2 1 2\n CLOSURE 3 put\n CALL 3 1 2\n GLOBAL 4 'next'\n MOVE 5 3\n CALL 4 2 3\n CLOSURE 6 text\n CALL 6 1 2\n LEN 6 6\n MOVE 3 4\n MOVE 4 5\n RETURN 1 5";
        int ended = 0;
        for (int many = 100; many < 139; many++) {
            Play play = Play.of(String.format(fill, many) + body + f);
            play.x.limit(200);
            String got = play.finish();
            ended += got.equals("error 10") ? 0 : 1;
            Due.is("with " + many + " tables", got.equals("error 10") ? "77 '2345' '98' '76'" : got, "77 '2345' '98' '76'");
        }
        Due.is("most of them end well", ended > 25 ? "yes" : "no, " + ended, "yes");
    }

    private static void isDoneBetweenTwoSteps() {
        Due.by("COLLECTION, between two STEPS: EXISTING.");
        Play play = Play.of("main 4\n NEWTABLE 0\n LOADNIL 0 0\n RETURN 0 1");
        play.x.run(1);
        Due.is("reached", play.x.collect() + " " + play.x.count(2), "61 1");
        play.x.run(1);
        Due.is("not reached", play.x.collect() + " " + play.x.count(2), "60 2");
        Due.is("each is counted", play.x.count(5), 2);
    }

    private static void isDoneByPrograms() {
        Due.by("\"collect\": COLLECTION; gives EXISTING.");
        Play play = Play.of("main 4\n NEWTABLE 0\n NEWTABLE 0\n GLOBAL 1 'collect'\n CALL 1 1 0\n RETURN 1 0");
        Due.is("what it gives", play.finish(), "61");
        Due.is("collections", play.x.count(5), 1);
    }
}
