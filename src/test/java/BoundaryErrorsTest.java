/** ERRORS and what is too much for a coroutine: for each sentence that names a boundary, what is due on both sides of it. */
public final class BoundaryErrorsTest {
    private static final String ROWS = "\n function r250 0 0 250\n RETURN 0 251\n end\n function r249 0 0 250\n RETURN 0 250\n end\n function r248 0 0 250\n RETURN 0 249\n end\n function none 0 0 2\n RETURN 0 1\n end";

    public static void main(String[] args) {
        goesToTheNearestPcall();
        closesWhatGoes();
        has200Frames();
        countsWaitingOnes();
        has4000Registers();
        countsFurtherArguments();
        countsEachCoroutineAlone();
        takes250Arguments();
        gives250Results();
        opens250Values();
        looksAtArgumentsFirst();
        looksAtWhatCallPutsBefore();
        isNotCaughtWhenTooMuchIsMade();
        Due.end();
    }

    private static void goesToTheNearestPcall() {
        Due.by("One is given to the nearest \"pcall\" that is under way in the coroutine");
        Play.due("main 6\n GLOBAL 0 'pcall'\n GLOBAL 1 'pcall'\n GLOBAL 2 'error'\n LOADK 3 #5\n CALL 0 4 0\n RETURN 0 0", "true false 5");
        // a pcall that has ended is not under way
        Play.due("main 6\n GLOBAL 0 'pcall'\n GLOBAL 1 'type'\n CALL 0 2 1\n ADD 0 0 'a'\n RETURN 0 1", "error 3");
        // one in another coroutine is none
        Play.due("main 6\n GLOBAL 0 'pcall'\n CLOSURE 1 f\n CALL 0 2 0\n RETURN 0 0\n function f 0 0 4 u0\n GLOBAL 0 'resume'\n GLOBAL 1 'create'\n GLOBAL 2 'error'\n CALL 1 2 2\n LOADK 2 #6\n CALL 0 3 0\n RETURN 0 0\n end", "true false 6");
    }

    private static void closesWhatGoes() {
        Due.by("(all FRAMES above it go, their variables CLOSED first, from the newest)");
        String f = "function f 0 0 4 u0\n LOADK 0 #1\n CLOSURE 1 get\n SETGLOBAL 'get' 1\n LOADK 0 #2\n CLOSURE 1 g\n CALL 1 1 1\n RETURN 0 1\n function get 0 0 2 r0\n GETUPVAL 0 0\n RETURN 0 2\n end\n"
            + "function g 0 0 4 r0\n LOADK 1 #3\n SETUPVAL 1 0\n CALL 2 1 1\n RETURN 0 1\n end\n end";
        Play play = Play.of("main 6\n GLOBAL 0 'pcall'\n CLOSURE 1 f\n CALL 0 2 3\n CLOSURE 2 fill\n CALL 2 1 1\n GLOBAL 2 'get'\n CALL 2 1 2\n RETURN 0 4\n" + f + "\n function fill 0 0 20\n LOADK 0 'x'\n LOADK 1 'y'\n RETURN 0 1\n end");
        play.x.run(3 + 6 + 3);
        Due.is("frames behind it", play.x.count(9), 1);
        Due.is("what was shared", play.finish(), "false 1 3");
    }

    /** Counts in a global how deep it gets. */
    private static String deep(int mainRegisters, int registers, String how) {
        return "main " + mainRegisters + "\n SETGLOBAL 'n' #0\n CLOSURE 0 f\n SETGLOBAL 'f' 0\n GLOBAL 0 'pcall'\n GLOBAL 1 'f'\n CALL 0 2 3\n GLOBAL 2 'n'\n RETURN 0 4\n"
            + "function f 0 1 " + registers + " u0\n GLOBAL 0 'n'\n ADD 0 0 #1\n SETGLOBAL 'n' 0\n " + how + "\n RETURN 0 1\n end";
    }

    private static void has200Frames() {
        Due.by("at most 200");
        Play play = Play.of("main 3\n CLOSURE 0 f\n SETGLOBAL 'f' 0\n CALL 0 1 1\n RETURN 0 1\n function f 0 0 2 u0\n GLOBAL 0 'f'\n CALL 0 1 1\n RETURN 0 1\n end");
        play.x.run(3 + 2 * 198 + 1);
        Due.is("200 frames", play.x.count(9), 200);
        Due.is("the next", play.x.run(1), 2);
        Due.is("its error", play.results(), "4");
        Play.due(deep(5, 3, "GLOBAL 0 'f'\n CALL 0 1 1"), "false 4 198");
        // in place of a frame there is always room
        Play.due("main 3\n CLOSURE 0 f\n SETGLOBAL 'f' 0\n LOADK 1 #500\n TAILCALL 0 2\n function f 1 0 3 u0\n EQ 1 0 #0\n JMP 0 3\n GLOBAL 1 'f'\n SUB 2 0 #1\n TAILCALL 1 2\n RETURN 0 2\n end", "0");
    }

    private static void countsWaitingOnes() {
        Due.by("built in ones that wait counted (pcall, resume, wrap's, tostring for a __tostring)");
        // 1 of main, 1 of pcall, then pairs: the 100th f has 200 in all before its pcall
        Play.due(deep(5, 4, "GLOBAL 0 'pcall'\n GLOBAL 1 'f'\n CALL 0 2 3\n EQ 0 1 #4\n JMP 0 0"), "true nil 99");
        Play waits = Play.of("main 6\n CLOSURE 0 f\n CALL 0 1 1\n RETURN 0 1\n function f 0 0 6 u0\n GLOBAL 0 'pcall'\n CLOSURE 1 g\n CALL 0 2 1\n RETURN 0 1\n function g 0 0 3\n LOADNIL 0 0\n RETURN 0 1\n end\n end");
        waits.x.run(2 + 3 + 1);
        Due.is("main, f, pcall, g", waits.x.count(9), 4);
        Play text = Play.of("main 6\n NEWTABLE 0\n CLOSURE 1 f\n SETTABLE 0 '__tostring' 1\n GLOBAL 1 'setmetatable'\n MOVE 2 0\n MOVE 3 0\n CALL 1 3 1\n GLOBAL 1 'tostring'\n MOVE 2 0\n CALL 1 2 2\n RETURN 1 2\n function f 1 0 3\n LOADK 1 'x'\n RETURN 1 2\n end");
        text.x.run(10);
        Due.is("main, tostring, f", text.x.count(9), 3);
        Due.is("its text", text.finish(), "'x'");
        Play.due(waiting("wrap", 197, "GLOBAL 1 'c'\n CALL 1 1 0"), "7");
        Play.due(waiting("wrap", 198, "GLOBAL 1 'c'\n CALL 1 1 0"), "error 4");
        Play.due(waiting("create", 197, "GLOBAL 1 'resume'\n GLOBAL 2 'c'\n CALL 1 2 0"), "true 7");
        Play.due(waiting("create", 198, "GLOBAL 1 'resume'\n GLOBAL 2 'c'\n CALL 1 2 0"), "error 4");
        Play.due(waiting("create", 197, "GLOBAL 1 'pcall'\n GLOBAL 2 'type'\n CALL 1 2 0"), "true 'nil'");
        Play.due(waiting("create", 198, "GLOBAL 1 'pcall'\n GLOBAL 2 'type'\n CALL 1 2 0"), "error 4");
        // those that do not wait are not counted
        Play.due(waiting("create", 198, "GLOBAL 1 'status'\n GLOBAL 2 'c'\n CALL 1 2 0"), "'suspended'");
    }

    /** Main's frame, one, and so many more, the last of which does something with the global c, a coroutine of f. */
    private static String waiting(String made, int more, String last) {
        return "main 6\n GLOBAL 0 '" + made + "'\n CLOSURE 1 f\n CALL 0 2 2\n SETGLOBAL 'c' 0\n CLOSURE 2 deeper\n SETGLOBAL 'deeper' 2\n LOADK 3 #" + more + "\n CALL 2 2 0\n RETURN 2 0\n"
            + "function f 0 0 2\n LOADK 0 #7\n RETURN 0 2\n end\n"
            + "function deeper 1 0 6 u0\n EQ 1 0 #0\n JMP 0 >last\n GLOBAL 1 'deeper'\n SUB 2 0 #1\n CALL 1 2 0\n RETURN 1 0\nlast:\n " + last + "\n RETURN 1 0\n end";
    }

    private static void has4000Registers() {
        Due.by("their registers and further arguments together at most 4,000: ERROR 4 at the next");
        Play.due(deep(250, 250, "GLOBAL 0 'f'\n CALL 0 1 1"), "false 4 15");
        Play.due(deep(249, 250, "GLOBAL 0 'f'\n CALL 0 1 1"), "false 4 15");
        Play.due(deep(250, 249, "GLOBAL 0 'f'\n CALL 0 1 1"), "false 4 15");
        // 40 + 20 * 198 is 4,000, 41 + 20 * 198 is more
        Play.due(deep(40, 20, "GLOBAL 0 'f'\n CALL 0 1 1"), "false 4 198");
        Play.due(deep(41, 20, "GLOBAL 0 'f'\n CALL 0 1 1"), "false 4 197");
        // those that wait have none: at 4,000 there is still room for them
        String last = "main 250\n CLOSURE 0 deeper\n SETGLOBAL 'deeper' 0\n LOADK 1 #14\n CALL 0 2 0\n RETURN 0 0\n function deeper 1 0 250 u0\n EQ 1 0 #0\n JMP 0 >last\n GLOBAL 1 'deeper'\n SUB 2 0 #1\n CALL 1 2 0\n RETURN 1 0\nlast:\n %s\n CALL 1 2 0\n RETURN 1 0\n end";
        Play.due(String.format(last, "GLOBAL 1 'pcall'\n GLOBAL 2 'type'"), "true 'nil'");
        Play.due(String.format(last, "GLOBAL 1 'resume'\n GLOBAL 2 'create'\n GLOBAL 3 'type'\n CALL 2 2 2"), "true 'nil'");
        Play.due(String.format(last, "GLOBAL 1 'wrap'\n GLOBAL 2 'type'\n CALL 1 2 2"), "'function'");
        Play.due(String.format(last, "NEWTABLE 2\n GLOBAL 3 'type'\n SETTABLE 2 '__tostring' 3\n GLOBAL 3 'setmetatable'\n MOVE 4 2\n MOVE 5 2\n CALL 3 3 1\n GLOBAL 1 'tostring'"), "'table'");
        Play.due(String.format(last, "GLOBAL 1 'deeper'\n LOADK 2 #0"), "error 4");
    }

    private static void countsFurtherArguments() {
        Due.by("their registers and further arguments together at most 4,000");
        // 50 + (40 + 10) * 79 is 4,000
        String ten = "GLOBAL 0 'f'\n CALL 0 11 1";
        Play.due(deep(50, 40, ten).replace("CALL 0 2 3", "CALL 0 12 3"), "false 4 79");
        Play.due(deep(51, 40, ten).replace("CALL 0 2 3", "CALL 0 12 3"), "false 4 78");
        // arguments that none takes are not counted
        Play.due(deep(50, 50, ten).replace("CALL 0 2 3", "CALL 0 12 3").replace("function f 0 1", "function f 0 0"), "false 4 79");
        // nor are parameters, but as the registers that they are
        Play.due(deep(50, 50, ten).replace("CALL 0 2 3", "CALL 0 12 3").replace("function f 0 1", "function f 10 1"), "false 4 79");
    }

    private static void countsEachCoroutineAlone() {
        Due.by("FRAMES of one coroutine");
        String f = "\n function f 0 0 20 u0\n GLOBAL 0 'n'\n ADD 0 0 #1\n SETGLOBAL 'n' 0\n GLOBAL 0 'f'\n CALL 0 1 1\n RETURN 0 1\n end";
        Play.due("main 40\n SETGLOBAL 'n' #0\n CLOSURE 0 f\n SETGLOBAL 'f' 0\n GLOBAL 1 'resume'\n GLOBAL 2 'create'\n MOVE 3 0\n CALL 2 2 2\n CALL 1 2 3\n GLOBAL 3 'n'\n RETURN 1 4" + f, "false 4 200");
    }

    private static void takes250Arguments() {
        Due.by("More than 250 arguments, results or values of an OPEN row: ERROR 7.");
        String count = "main 4\n GLOBAL 0 'select'\n LOADK 1 '#'\n CLOSURE 2 %s\n CALL 2 1 0\n %s" + ROWS;
        Play.due(String.format(count, "r249", "CALL 0 0 2\n RETURN 0 2"), "249");
        Play.due(String.format(count, "r250", "CALL 0 0 2\n RETURN 0 2"), "error 7");
        Play.due(String.format(count, "r249", "TAILCALL 0 0"), "249");
        Play.due(String.format(count, "r250", "TAILCALL 0 0"), "error 7");
    }

    private static void gives250Results() {
        Due.by("More than 250 arguments, results or values of an OPEN row: ERROR 7.");
        Play most = Play.of("main 4\n LOADK 0 #1\n CLOSURE 1 r249\n CALL 1 1 0\n RETURN 0 0" + ROWS);
        Due.is("250", most.finish().startsWith("1 nil") ? most.x.count(10) : -1, 250);
        Play.due("main 4\n LOADK 0 #1\n CLOSURE 1 r250\n CALL 1 1 0\n RETURN 0 0" + ROWS, "error 7");
        String kept = "main 6\n GLOBAL 0 'pcall'\n CLOSURE 1 %s\n CALL 0 2 3\n RETURN 0 2" + ROWS;
        Play.due(String.format(kept, "r249"), "true");
        Play.due(String.format(kept, "r250"), "error 7");
        String resumed = "main 6\n GLOBAL 0 'create'\n CLOSURE 1 %s\n CALL 0 2 2\n GLOBAL 1 'pcall'\n GLOBAL 2 'resume'\n MOVE 3 0\n CALL 1 3 3\n RETURN 1 3" + ROWS;
        Play.due(String.format(resumed, "r248"), "true true");
        Play.due(String.format(resumed, "r250"), "false 7");
        Play.due("main 6\n GLOBAL 0 'wrap'\n CLOSURE 1 r250\n CALL 0 2 2\n CALL 0 1 2\n RETURN 0 2" + ROWS, "nil");
    }

    private static void opens250Values() {
        Due.by("values of an OPEN row");
        Play open = Play.of("main 4\n CLOSURE 0 r250\n CALL 0 1 0\n RETURN 0 0" + ROWS);
        open.finish();
        Due.is("250 results are an open row", open.x.count(10), 250);
        Play further = Play.of("main 4\n CLOSURE 0 f\n CLOSURE 1 r250\n CALL 1 1 0\n CALL 0 0 0\n RETURN 0 0\n function f 0 1 2\n VARARG 0 0\n RETURN 0 0\n end" + ROWS);
        further.finish();
        Due.is("250 further arguments are one", further.x.count(10), 250);
    }

    private static void looksAtArgumentsFirst() {
        Due.by("Too many arguments (ERROR 7) of 36 and 37 are looked at ahead of what is called");
        String call = "main 6\n LOADK 0 %s\n LOADK 1 #1\n CLOSURE 2 %s\n CALL 2 1 0\n %s" + ROWS;
        for (String end : new String[] {"CALL 0 0 1\n RETURN 0 1", "TAILCALL 0 0"}) {
            Play.due(String.format(call, "nil", "r249", end), "error 1");
            Play.due(String.format(call, "nil", "r250", end), "error 7");
        }
    }

    private static void looksAtWhatCallPutsBefore() {
        Due.by("with what __call puts before them, once there is a function");
        String table = "main 8\n NEWTABLE 0\n NEWTABLE 1\n %s\n SETTABLE 1 '__call' 2\n GLOBAL 3 'setmetatable'\n MOVE 4 0\n MOVE 5 1\n CALL 3 3 1\n CLOSURE 1 %s\n CALL 1 1 0\n CALL 0 0 1\n RETURN 0 1" + ROWS;
        Play.due(String.format(table, "CLOSURE 2 none", "r249"), "");
        Play.due(String.format(table, "CLOSURE 2 none", "r250"), "error 7");
        Play.due(String.format(table, "LOADK 2 #1", "r250"), "error 1");
        Play.due(String.format(table, "MOVE 2 0", "r250"), "error 4");
    }

    private static void isNotCaughtWhenTooMuchIsMade() {
        Due.by("not caught: the running coroutine, those that wait for it and the main one end by it, their variables CLOSED");
        Play play = Play.of("main 6\n GLOBAL 0 'pcall'\n GLOBAL 1 'wrap'\n CLOSURE 2 f\n CALL 1 2 2\n CALL 0 2 0\n RETURN 0 0\n"
            + "function f 0 0 4 u0\n GLOBAL 0 'pcall'\n CLOSURE 1 g\n CALL 0 2 0\n RETURN 0 0\n function g 0 0 4\nbody:\n NEWTABLE 0\n JMP 0 >body\n end\n end");
        Due.is("inside two pcalls and a coroutine", play.finish(), "error 11");
        Due.is("frames", play.x.count(9), 0);
        Due.is("run again", play.x.run(1), 2);
        // the global table, its names and the main coroutine
        Due.is("what is left", play.x.collect(), 58);
        // a program that raises 11 itself is caught
        Play.due("main 4\n GLOBAL 0 'pcall'\n GLOBAL 1 'error'\n LOADK 2 #11\n CALL 0 3 0\n RETURN 0 0", "false 11");
        Play.due("main 4\n GLOBAL 0 'pcall'\n GLOBAL 1 'error'\n LOADK 2 #10\n CALL 0 3 0\n RETURN 0 0", "false 10");
    }
}
