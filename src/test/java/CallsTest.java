/** Calls, results, open rows, tail calls, and the limits of all these. */
public final class CallsTest {
    public static void main(String[] args) {
        passesArgumentsAndResults();
        usesOpenRows();
        leavesRegistersAsTheyAre();
        callsInPlaceOfAFrame();
        limitsFrames();
        limitsRegisters();
        limitsArguments();
        limitsResults();
        looksAtArgumentsAheadOfTheFunction();
        Due.end();
    }

    private static void passesArgumentsAndResults() {
        String f = "\n function f 2 0 4\n RETURN 0 3\n end";
        Play.due("main 6\n CLOSURE 0 f\n LOADK 1 #1\n LOADK 2 #2\n LOADK 3 #3\n CALL 0 4 4\n RETURN 0 4" + f, "1 2 nil");
        Play.due("main 6\n CLOSURE 0 f\n LOADK 1 #1\n CALL 0 2 3\n RETURN 0 3" + f, "1 nil");
        Play.due("main 6\n CLOSURE 0 f\n LOADK 1 #1\n CALL 0 2 1\n RETURN 1 2" + f, "1");
        Play.due("main 6\n CLOSURE 0 f\n LOADK 5 #9\n CALL 0 1 1\n CLOSURE 0 g\n CALL 0 1 2\n RETURN 0 2" + f + "\n function g 0 0 6\n RETURN 5 2\n end", "nil");
    }

    private static void usesOpenRows() {
        String three = "\n function f 0 0 4\n LOADK 0 #1\n LOADK 1 #2\n LOADK 2 #3\n RETURN 0 4\n end\n function g 0 1 4\n VARARG 0 0\n RETURN 0 0\n end";
        Play.due("main 6\n CLOSURE 0 f\n CALL 0 1 0\n RETURN 0 0" + three, "1 2 3");
        Play.due("main 6\n LOADK 0 #8\n LOADK 1 #9\n CLOSURE 2 f\n CALL 2 1 0\n RETURN 0 0" + three, "8 9 1 2 3");
        Play.due("main 6\n CLOSURE 0 g\n LOADK 1 #7\n CLOSURE 2 f\n CALL 2 1 0\n CALL 0 0 0\n RETURN 0 0" + three, "7 1 2 3");
        Play.due("main 6\n CLOSURE 0 g\n CLOSURE 1 f\n CALL 1 1 0\n TAILCALL 0 0" + three, "1 2 3");
        Play.due("main 6\n CLOSURE 0 g\n CLOSURE 4 f\n CALL 4 1 0\n CALL 0 0 5\n RETURN 0 5" + three, "nil nil nil 1");
        Play.due("main 6\n NEWTABLE 0\n CLOSURE 3 f\n CALL 3 1 0\n SETLIST 0 0 1\n LEN 1 0\n GETTABLE 2 0 #3\n GETTABLE 3 0 #5\n RETURN 1 4" + three, "0 1 3");
    }

    private static void leavesRegistersAsTheyAre() {
        Play.due("main 6\n NEWTABLE 4\n CLOSURE 5 f\n MOVE 0 5\n CALL 5 1 0\n SETLIST 4 0 1\n EQ 1 0 5\n JMP 0 1\n LOADNIL 4 0\n GETTABLE 4 4 #2\n RETURN 4 2\n"
            + "function f 0 0 4\n LOADK 0 #1\n LOADK 1 #2\n RETURN 0 3\n end", "2");
        Play.due("main 4\n CLOSURE 0 f\n LOADK 1 #5\n CALL 0 2 1\n RETURN 1 2\n function f 1 0 2\n LOADK 0 #6\n RETURN 0 1\n end", "5");
    }

    private static void callsInPlaceOfAFrame() {
        Play play = Play.of("main 4\n CLOSURE 0 f\n SETGLOBAL 'f' 0\n LOADK 1 #100000\n CALL 0 2 2\n RETURN 0 2\n"
            + "function f 1 0 4 u0\n EQ 0 0 #0\n JMP 0 1\n RETURN 0 2\n GLOBAL 1 'f'\n SUB 2 0 #1\n TAILCALL 1 2\n end");
        Due.is("100,000 calls in place of one", play.finish(), "0");
        Play frames = Play.of("main 4\n CLOSURE 0 f\n CALL 0 1 2\n RETURN 0 2\n function f 0 0 3 u0\n GLOBAL 0 'pcall'\n GLOBAL 1 'type'\n CLOSURE 1 g\n TAILCALL 0 2\n function g 0 0 2\n RETURN 0 1\n end\n end");
        frames.x.run(6);
        Due.is("pcall's frame and g's, but f's no more", frames.x.count(9), 3);
        Play.due("main 4\n CLOSURE 0 f\n CALL 0 1 0\n RETURN 0 0\n function f 0 0 3 u0\n GLOBAL 0 'select'\n LOADK 1 #1\n LOADK 2 #7\n TAILCALL 0 3\n end", "7");
        Play.due("main 4\n LOADK 0 #1\n CLOSURE 1 get\n TAILCALL 1 1\n function get 0 0 2 r0\n GETUPVAL 0 0\n RETURN 0 2\n end", "1");
        Play.due("main 4\n TAILCALL 0 1", "error 1");
    }

    /** Depth counted by a global until the error. */
    private static String deep(String how, int registers) {
        return "main 5\n SETGLOBAL 'n' #0\n CLOSURE 0 f\n SETGLOBAL 'f' 0\n GLOBAL 0 'pcall'\n GLOBAL 1 'f'\n CALL 0 2 3\n GLOBAL 2 'n'\n RETURN 0 4\n"
            + "function f 0 1 " + registers + " u0\n GLOBAL 0 'n'\n ADD 0 0 #1\n SETGLOBAL 'n' 0\n " + how + "\n RETURN 0 1\n end";
    }

    private static void limitsFrames() {
        Play.due(deep("GLOBAL 0 'f'\n CALL 0 1 1", 3), "false 4 198");
        Play.due(deep("GLOBAL 0 'pcall'\n GLOBAL 1 'f'\n CALL 0 2 3\n SETGLOBAL 'ok' 0", 3), "true nil 99");
        Play play = Play.of("main 3\n CLOSURE 0 f\n SETGLOBAL 'f' 0\n CALL 0 1 1\n RETURN 0 1\n function f 0 0 2 u0\n GLOBAL 0 'f'\n CALL 0 1 1\n RETURN 0 1\n end");
        play.x.run(3 + 2 * 198 + 1);
        Due.is("200 frames", play.x.count(9), 200);
        Due.is("one more", play.x.run(1), 2);
        Due.is("the error", play.results(), "4");
    }

    private static void limitsRegisters() {
        // 5 registers of main, a frame of pcall, then 19 or 15 frames
        Play.due(deep("GLOBAL 0 'f'\n CALL 0 1 1", 200), "false 4 19");
        Play.due(deep("GLOBAL 0 'f'\n CALL 0 1 1", 250), "false 4 15");
        Play.due(deep("GLOBAL 0 'f'\n CALL 0 1 1", 235), "false 4 17");
        Play.due("main 250\n SETGLOBAL 'n' #0\n CLOSURE 0 f\n SETGLOBAL 'f' 0\n GLOBAL 0 'pcall'\n GLOBAL 1 'f'\n CALL 0 2 3\n GLOBAL 2 'n'\n RETURN 0 4\n"
            + "function f 0 1 250 u0\n GLOBAL 0 'n'\n ADD 0 0 #1\n SETGLOBAL 'n' 0\n GLOBAL 0 'f'\n CALL 0 1 1\n RETURN 0 1\n end", "false 4 15");
        // each frame of 10 registers has 90 further arguments
        Play.due(deep("GLOBAL 0 'f'\n VARARG 1 0\n CALL 0 0 1", 10).replace("GLOBAL 1 'f'\n CALL 0 2 3", "GLOBAL 1 'f'\n CLOSURE 2 g\n CALL 2 1 0\n CALL 0 0 3") + "\n function g 0 0 90\n RETURN 0 91\n end", "false 4 39");
    }

    private static final String MANY = "\n function many 0 0 250\n RETURN 0 251\n end\n function less 0 0 250\n RETURN 0 250\n end\n function none 0 0 2\n RETURN 0 1\n end";

    private static void limitsArguments() {
        Play.due("main 4\n GLOBAL 0 'select'\n LOADK 1 '#'\n CLOSURE 2 less\n CALL 2 1 0\n CALL 0 0 2\n RETURN 0 2" + MANY, "249");
        Play.due("main 4\n GLOBAL 0 'select'\n LOADK 1 '#'\n CLOSURE 2 many\n CALL 2 1 0\n CALL 0 0 2\n RETURN 0 2" + MANY, "error 7");
        Play.due("main 4\n GLOBAL 0 'select'\n LOADK 1 '#'\n CLOSURE 2 many\n CALL 2 1 0\n TAILCALL 0 0" + MANY, "error 7");
        String table = "main 6\n NEWTABLE 0\n NEWTABLE 1\n CLOSURE 2 none\n SETTABLE 1 '__call' 2\n GLOBAL 2 'setmetatable'\n MOVE 3 0\n MOVE 4 1\n CALL 2 3 1\n";
        Play.due(table + "CLOSURE 1 less\n CALL 1 1 0\n CALL 0 0 1\n RETURN 0 1" + MANY, "");
        Play.due(table + "CLOSURE 1 many\n CALL 1 1 0\n CALL 0 0 1\n RETURN 0 1" + MANY, "error 7");
    }

    private static void limitsResults() {
        Play.due("main 4\n LOADK 0 #1\n CLOSURE 1 many\n CALL 1 1 0\n RETURN 0 0" + MANY, "error 7");
        Play most = Play.of("main 4\n LOADK 0 #1\n CLOSURE 1 less\n CALL 1 1 0\n RETURN 0 0" + MANY);
        most.finish();
        Due.is("250 results", most.x.count(10), 250);
        Play list = Play.of("main 4\n NEWTABLE 0\n LOADK 1 #1\n CLOSURE 2 many\n CALL 2 1 0\n SETLIST 0 0 1\n LEN 0 0\n RETURN 0 2" + MANY);
        Due.is("a list of more is no row", list.finish(), "1");
        Play kept = Play.of("main 4\n GLOBAL 0 'pcall'\n CLOSURE 1 less\n CALL 0 2 0\n RETURN 0 0" + MANY);
        kept.finish();
        Due.is("pcall with 249 results", kept.x.count(10), 250);
        Play.due("main 4\n GLOBAL 0 'pcall'\n CLOSURE 1 many\n CALL 0 2 0\n RETURN 0 0" + MANY, "error 7");
        Play.due("main 4\n GLOBAL 0 'pcall'\n GLOBAL 1 'pcall'\n CLOSURE 2 many\n CALL 0 3 4\n RETURN 0 4" + MANY, "false 7 nil");
        Play.due("main 4\n GLOBAL 0 'pcall'\n GLOBAL 1 'resume'\n GLOBAL 2 'create'\n CLOSURE 3 many\n CALL 2 2 2\n CALL 0 3 4\n RETURN 0 4" + MANY, "false 7 nil");
    }

    private static void looksAtArgumentsAheadOfTheFunction() {
        Play.due("main 6\n LOADNIL 0 0\n LOADK 1 #1\n CLOSURE 2 many\n CALL 2 1 0\n CALL 0 0 1\n RETURN 0 1" + MANY, "error 7");
        Play.due("main 6\n LOADNIL 0 0\n CLOSURE 1 many\n CALL 1 1 0\n CALL 0 0 1\n RETURN 0 1" + MANY, "error 1");
    }
}
