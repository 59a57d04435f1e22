/** Coroutines: for each sentence that names a boundary, what is due on both sides of it. */
public final class BoundaryCoroutinesTest {
    /** Gives way with its arguments, then gives back what it is resumed with. */
    private static final String WAY = "\n function way 0 1 6 u0\n GLOBAL 0 'yield'\n VARARG 1 0\n CALL 0 0 0\n RETURN 0 0\n end";
    private static final String BAD = "\n function bad 0 0 3\n ADD 0 0 0\n RETURN 0 1\n end";

    public static void main(String[] args) {
        createsOfFunctionsAlone();
        resumesCoroutinesAlone();
        goesOnWithAnyNumberOfValues();
        endsByAnError();
        resumesSuspendedOnesAlone();
        givesWayInAnyButTheMain();
        tellsItsStatus();
        tellsWhoIsRunning();
        wrapsANewCoroutine();
        raisesWhatIsWrapped();
        existsAtMost32Times();
        keepsEachApart();
        sharesVariablesOfOnesThatHaveGone();
        beginsWhereOneHasGone();
        Due.end();
    }

    private static void createsOfFunctionsAlone() {
        Due.by("\"create\": a coroutine of a function (ERROR 1: none).");
        for (String wrong : new String[] {"nil", "true", "#1", "'a'"}) {
            Play.due("main 3\n GLOBAL 0 'create'\n LOADK 1 " + wrong + "\n CALL 0 2 2\n RETURN 0 2", "error 1");
        }
        Play.due("main 3\n GLOBAL 0 'create'\n GLOBAL 1 'print'\n CALL 0 2 2\n RETURN 0 2", "coroutine:60");
        // a table that can be called is no function
        Play.due("main 6\n NEWTABLE 0\n GLOBAL 1 'print'\n SETTABLE 0 '__call' 1\n GLOBAL 1 'setmetatable'\n MOVE 2 0\n MOVE 3 0\n CALL 1 3 1\n GLOBAL 1 'create'\n MOVE 2 0\n CALL 1 2 2\n RETURN 1 2", "error 1");
    }

    private static void resumesCoroutinesAlone() {
        Due.by("\"resume\" (coroutine, else ERROR 2; ..)");
        for (String wrong : new String[] {"nil", "true", "#1", "'a'"}) {
            Play.due("main 3\n GLOBAL 0 'resume'\n LOADK 1 " + wrong + "\n CALL 0 2 2\n RETURN 0 2", "error 2");
        }
        Play.due("main 3\n GLOBAL 0 'resume'\n GLOBAL 1 'print'\n CALL 0 2 2\n RETURN 0 2", "error 2");
    }

    private static void goesOnWithAnyNumberOfValues() {
        Due.by("it goes on: true and what it gives way with or gives back");
        String twice = "main 12\n GLOBAL 0 'create'\n CLOSURE 1 way\n CALL 0 2 2\n GLOBAL 1 'resume'\n MOVE 2 0\n LOADK 3 #3\n LOADK 4 #4\n CALL 1 %d %d\n GLOBAL %d 'resume'\n MOVE %d 0\n LOADK %d #5\n CALL %d %d 0\n RETURN 1 0" + WAY;
        Play.due(String.format(twice, 2, 2, 2, 3, 4, 2, 2), "true true");
        Play.due(String.format(twice, 4, 4, 4, 5, 6, 4, 3), "true 3 4 true 5");
        Play.due(String.format(twice, 3, 4, 4, 5, 6, 4, 3), "true 3 nil true 5");
    }

    private static void endsByAnError() {
        Due.by("false and the ERROR, if it ends by one");
        Play.due("main 6\n GLOBAL 0 'create'\n CLOSURE 1 bad\n CALL 0 2 2\n GLOBAL 1 'resume'\n MOVE 2 0\n CALL 1 2 3\n GLOBAL 3 'status'\n MOVE 4 0\n CALL 3 2 2\n RETURN 1 4" + BAD, "false 3 'dead'");
        Play.due("main 6\n GLOBAL 0 'create'\n GLOBAL 1 'error'\n CALL 0 2 2\n GLOBAL 1 'resume'\n MOVE 2 0\n CALL 1 2 0\n RETURN 1 0", "false nil");
        Due.by("else ends the coroutine (likewise)");
        Play.due("main 6\n GLOBAL 0 'pcall'\n GLOBAL 1 'resume'\n GLOBAL 2 'create'\n CLOSURE 3 bad\n CALL 2 2 2\n CALL 0 3 0\n RETURN 0 0" + BAD, "true false 3");
    }

    private static void resumesSuspendedOnesAlone() {
        Due.by("false and 9 if it is not suspended");
        Play.due("main 6\n GLOBAL 0 'resume'\n GLOBAL 1 'running'\n CALL 1 1 2\n CALL 0 2 0\n RETURN 0 0", "false 9");
        Play.due("main 8\n GLOBAL 0 'create'\n GLOBAL 1 'type'\n CALL 0 2 2\n GLOBAL 1 'resume'\n MOVE 2 0\n CALL 1 2 3\n GLOBAL 3 'resume'\n MOVE 4 0\n CALL 3 2 0\n RETURN 1 0", "true 'nil' false 9");
        // the inner one resumes the outer one, which is normal then
        Play.due("main 8\n GLOBAL 0 'running'\n CALL 0 1 2\n SETGLOBAL 'm' 0\n GLOBAL 0 'wrap'\n CLOSURE 1 f\n CALL 0 2 2\n CALL 0 1 0\n RETURN 0 0\n function f 0 0 3 u0\n GLOBAL 0 'resume'\n GLOBAL 1 'm'\n TAILCALL 0 2\n end", "false 9");
    }

    private static void givesWayInAnyButTheMain() {
        Due.by("what it is resumed with is the result; ERROR 9 in the main one");
        Play.due("main 3\n GLOBAL 0 'yield'\n CALL 0 1 1\n RETURN 0 1", "error 9");
        Play.due("main 3\n GLOBAL 0 'pcall'\n GLOBAL 1 'yield'\n CALL 0 2 0\n RETURN 0 0", "false 9");
        Play.due("main 8\n GLOBAL 0 'wrap'\n CLOSURE 1 way\n CALL 0 2 2\n MOVE 1 0\n CALL 1 1 1\n MOVE 1 0\n LOADK 2 #7\n CALL 1 2 0\n RETURN 1 0" + WAY, "7");
        Play.due("main 8\n GLOBAL 0 'wrap'\n CLOSURE 1 way\n CALL 0 2 2\n MOVE 1 0\n CALL 1 1 1\n MOVE 1 0\n CALL 1 1 0\n RETURN 1 0" + WAY, "");
    }

    private static void tellsItsStatus() {
        Due.by("\"status\" (coroutine, else ERROR 2): \"suspended\", \"running\", \"normal\" or \"dead\"");
        for (String wrong : new String[] {"nil", "true", "#1", "'a'"}) {
            Play.due("main 3\n GLOBAL 0 'status'\n LOADK 1 " + wrong + "\n CALL 0 2 2\n RETURN 0 2", "error 2");
        }
        String status = "GLOBAL %d 'status'\n MOVE %d 0\n CALL %d 2 2\n";
        Play.due("main 8\n GLOBAL 0 'create'\n CLOSURE 1 way\n CALL 0 2 2\n" + String.format(status, 1, 2, 1) + "GLOBAL 2 'resume'\n MOVE 3 0\n CALL 2 2 1\n" + String.format(status, 2, 3, 2)
            + "GLOBAL 3 'resume'\n MOVE 4 0\n CALL 3 2 1\n" + String.format(status, 3, 4, 3) + "RETURN 1 4" + WAY, "'suspended' 'suspended' 'dead'");
        Play.due("main 8\n GLOBAL 0 'running'\n CALL 0 1 2\n SETGLOBAL 'm' 0\n GLOBAL 0 'wrap'\n CLOSURE 1 f\n CALL 0 2 2\n CALL 0 1 0\n RETURN 0 0\n"
            + "function f 0 0 6 u0\n GLOBAL 0 'status'\n GLOBAL 1 'm'\n CALL 0 2 2\n GLOBAL 1 'status'\n GLOBAL 2 'running'\n CALL 2 1 2\n CALL 1 2 2\n RETURN 0 3\n end", "'normal' 'running'");
        // also when it has gone on a second time, and of the one that it has given way to
        Play.due("main 8\n GLOBAL 0 'wrap'\n CLOSURE 1 f\n CALL 0 2 2\n MOVE 1 0\n CALL 1 1 1\n CALL 0 1 2\n GLOBAL 1 'status'\n GLOBAL 2 'running'\n CALL 2 1 2\n CALL 1 2 2\n RETURN 0 3\n"
            + "function f 0 0 6 u0\n GLOBAL 0 'yield'\n CALL 0 1 1\n GLOBAL 0 'status'\n GLOBAL 1 'running'\n CALL 1 1 2\n TAILCALL 0 2\n end", "'running' 'running'");
        Play.due("main 8\n GLOBAL 0 'resume'\n GLOBAL 1 'create'\n GLOBAL 2 'error'\n CALL 1 2 2\n CALL 0 2 1\n GLOBAL 0 'status'\n GLOBAL 1 'running'\n CALL 1 1 2\n CALL 0 2 2\n RETURN 0 2", "'running'");
    }

    private static void tellsWhoIsRunning() {
        Due.by("\"running\": the coroutine (main: itself) and whether it is the main one.");
        Play.due("main 3\n GLOBAL 0 'running'\n CALL 0 1 0\n RETURN 0 0", "coroutine:59 true");
        Play.due("main 3\n GLOBAL 0 'wrap'\n GLOBAL 1 'running'\n CALL 0 2 2\n CALL 0 1 0\n RETURN 0 0", "coroutine:60 false");
    }

    private static void wrapsANewCoroutine() {
        Due.by("\"wrap\" (as create): a function that resumes a new coroutine, which is made first");
        for (String wrong : new String[] {"nil", "true", "#1", "'a'"}) {
            Play.due("main 3\n GLOBAL 0 'wrap'\n LOADK 1 " + wrong + "\n CALL 0 2 2\n RETURN 0 2", "error 1");
        }
        Play play = Play.of("main 4\n GLOBAL 0 'wrap'\n GLOBAL 1 'running'\n CALL 0 2 2\n MOVE 1 0\n CALL 1 1 2\n RETURN 0 3");
        Due.is("the coroutine is made first", play.finish(), "function:61 coroutine:60");
        Due.is("both exist", play.counts(3, 4), "62 62");
    }

    private static void raisesWhatIsWrapped() {
        Due.by("giving its results, or raising its ERROR (9 likewise)");
        Play.due("main 6\n GLOBAL 0 'wrap'\n CLOSURE 1 bad\n CALL 0 2 2\n CALL 0 1 1\n RETURN 0 1" + BAD, "error 3");
        Play.due("main 6\n GLOBAL 0 'wrap'\n CLOSURE 1 bad\n CALL 0 2 2\n GLOBAL 1 'pcall'\n MOVE 2 0\n CALL 1 2 3\n GLOBAL 3 'pcall'\n MOVE 4 0\n CALL 3 2 0\n RETURN 1 0" + BAD, "false 3 false 9");
        Play.due("main 6\n GLOBAL 0 'wrap'\n CLOSURE 1 f\n CALL 0 2 2\n SETGLOBAL 'w' 0\n CALL 0 1 0\n RETURN 0 0\n function f 0 0 3 u0\n GLOBAL 0 'pcall'\n GLOBAL 1 'w'\n CALL 0 2 0\n RETURN 0 0\n end", "false 9");
        Play.due("main 6\n GLOBAL 0 'wrap'\n GLOBAL 1 'select'\n CALL 0 2 2\n LOADK 1 #1\n CALL 0 2 0\n RETURN 0 0", "");
    }

    /** So many coroutines, kept in a table. */
    private static Play many(int number, String function) {
        return Play.of("main 8\n NEWTABLE 0\n LOADK 1 #1\n LOADK 2 #" + number + "\n LOADK 3 #1\n FORPREP 1 >next\nbody:\n GLOBAL 5 '" + function + "'\n GLOBAL 6 'type'\n CALL 5 2 2\n SETTABLE 0 4 5\nnext:\n FORLOOP 1 >body\n RETURN 0 1");
    }

    private static void existsAtMost32Times() {
        Due.by("or 32 coroutines exist, for one of these");
        for (String function : new String[] {"create", "wrap"}) {
            Play most = many(31, function);
            Due.is("31 beside the main one", most.finish(), "");
            Due.is("no collection", most.x.count(5) + " " + most.x.count(11), "0 32");
            Play over = many(32, function);
            Due.is("one more", over.finish(), "error 10");
            Due.is("a collection", over.x.count(5) + " " + over.x.count(11), "1 32");
        }
        Play tables = Play.of("main 8\n NEWTABLE 0\n LOADK 1 #1\n LOADK 2 #31\n LOADK 3 #1\n FORPREP 1 >next\nbody:\n GLOBAL 5 'create'\n GLOBAL 6 'type'\n CALL 5 2 2\n SETTABLE 0 4 5\nnext:\n FORLOOP 1 >body\n NEWTABLE 5\n RETURN 5 2");
        Due.is("a table is still made", tables.finish(), "table:92");
        Due.is("without a collection", tables.x.count(5), 0);
        Play loose = Play.of("main 8\n LOADK 1 #1\n LOADK 2 #63\n LOADK 3 #1\n FORPREP 1 >next\nbody:\n GLOBAL 5 'create'\n GLOBAL 6 'type'\n CALL 5 2 2\nnext:\n FORLOOP 1 >body\n RETURN 0 1");
        Due.is("dead ones and loose ones go", loose.finish(), "");
        // 31 fit at first; each collection leaves the main one and that in R(5), which the call has overwritten
        Due.is("collections", loose.x.count(5), 2);
    }

    /** 31 beside the main one, all begun, each with a value of its own; before them as many that go. */
    private static void keepsEachApart() {
        Due.by("or 32 coroutines exist, for one of these");
        String all = "LOADK 1 #1\n LOADK 2 #31\n LOADK 3 #1\n FORPREP 1 >next\nbody:\n GLOBAL 5 'wrap'\n CLOSURE 6 f\n CALL 5 2 2\n SETTABLE 0 4 5\n MOVE 6 4\n CALL 5 2 1\nnext:\n FORLOOP 1 >body\n";
        String sum = "LOADK 7 #0\n LOADK 1 #1\n LOADK 2 #31\n LOADK 3 #1\n FORPREP 1 >last\nmore:\n GETTABLE 5 0 4\n CALL 5 1 2\n MUL 5 5 4\n ADD 7 7 5\nlast:\n FORLOOP 1 >more\n RETURN 7 2\n"
            + "function f 1 0 3 u0\n GLOBAL 1 'yield'\n CALL 1 1 1\n RETURN 0 2\n end";
        String squares = Integer.toString(31 * 32 * 63 / 6);
        Play.due("main 10\n NEWTABLE 0\n " + all + sum, squares);
        String twice = all.replace(">next", ">next2").replace("next:", "next2:").replace(">body", ">body2").replace("body:", "body2:");
        Play.due("main 10\n NEWTABLE 0\n " + twice + "NEWTABLE 0\n LOADNIL 4 4\n GLOBAL 5 'collect'\n CALL 5 1 1\n " + all + sum, squares);
    }

    private static void sharesVariablesOfOnesThatHaveGone() {
        Due.by("from closures their upvalues' variables, from these their values");
        String f = "function f 0 0 4 u0\n LOADK 0 #5\n CLOSURE 1 get\n SETGLOBAL 'get' 1\n GLOBAL 1 'yield'\n CALL 1 1 1\n RETURN 0 1\n function get 0 0 2 r0\n GETUPVAL 0 0\n RETURN 0 2\n end\n end\n"
            + "function g 0 0 4 u0\n LOADK 0 #99\n LOADK 1 #98\n GLOBAL 2 'yield'\n CALL 2 1 1\n RETURN 0 1\n end";
        Play.due("main 6\n GLOBAL 0 'wrap'\n CLOSURE 1 f\n CALL 0 2 2\n CALL 0 1 1\n LOADNIL 0 1\n GLOBAL 2 'collect'\n CALL 2 1 1\n GLOBAL 0 'wrap'\n CLOSURE 1 g\n CALL 0 2 2\n CALL 0 1 1\n GLOBAL 1 'get'\n CALL 1 1 2\n RETURN 1 2\n" + f, "5");
    }

    /** One that has gone when it was deep leaves all registers to the next. */
    private static void beginsWhereOneHasGone() {
        Due.by("FRAMES of one coroutine");
        String deep = "\n function deep 1 0 250 u0\n EQ 1 0 #0\n JMP 0 >last\n GLOBAL 1 'deep'\n SUB 2 0 #1\n CALL 1 2 2\n RETURN 1 2\nlast:\n GLOBAL 1 'yield'\n LOADK 2 #7\n CALL 1 2 1\n RETURN 0 2\n end";
        Play.due("main 6\n CLOSURE 0 deep\n SETGLOBAL 'deep' 0\n GLOBAL 1 'wrap'\n MOVE 2 0\n CALL 1 2 2\n LOADK 2 #15\n CALL 1 2 2\n LOADNIL 1 1\n GLOBAL 1 'collect'\n CALL 1 1 1\n GLOBAL 1 'wrap'\n MOVE 2 0\n CALL 1 2 2\n LOADK 2 #15\n CALL 1 2 2\n RETURN 1 2" + deep, "7");
    }
}
