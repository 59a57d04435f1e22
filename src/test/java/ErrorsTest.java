/** Errors: what they are given to, and what goes. */
public final class ErrorsTest {
    public static void main(String[] args) {
        goToTheNearestPcall();
        closeVariables();
        endTheProgram();
        areAnyValues();
        areNotCaughtWhenAllIsMade();
        leaveJustSoMuchToBeMade();
        comeFromVariablesAndClosures();
        comeFromWhatMakesTooMuch();
        Due.end();
    }

    private static void goToTheNearestPcall() {
        Due.by("ERRORS that the machine raises are integers. One is given to the nearest \"pcall\" that is under way in the coroutine");
        Play.due("main 4\n GLOBAL 0 'pcall'\n GLOBAL 1 'error'\n LOADK 2 #5\n CALL 0 3 0\n RETURN 0 0", "false 5");
        Play.due("main 4\n GLOBAL 0 'pcall'\n GLOBAL 1 'type'\n LOADK 2 #5\n CALL 0 3 0\n RETURN 0 0", "true 'number'");
        Play.due("main 4\n GLOBAL 0 'pcall'\n GLOBAL 1 'pcall'\n GLOBAL 2 'error'\n LOADK 3 #5\n CALL 0 4 0\n RETURN 0 0", "true false 5");
        Play.due("main 4\n GLOBAL 0 'pcall'\n LOADK 1 #1\n CALL 0 2 0\n RETURN 0 0", "false 1");
        Play.due("main 4\n GLOBAL 0 'pcall'\n CLOSURE 1 f\n CALL 0 2 0\n RETURN 0 0\n function f 0 0 3\n CLOSURE 0 g\n CALL 0 1 1\n RETURN 0 1\n function g 0 0 2\n LOADK 0 #1\n MOD 0 0 #0\n RETURN 0 1\n end\n end", "false 5");
        Play.due("main 4\n GLOBAL 0 'pcall'\n CLOSURE 1 f\n CALL 0 2 3\n GLOBAL 2 'pcall'\n CALL 2 1 3\n RETURN 0 5\n function f 0 0 3\n ADD 0 0 0\n RETURN 0 1\n end", "false 3 false 1");
    }

    private static void closeVariables() {
        Due.by("(all FRAMES above it go, their variables CLOSED first, from the newest)");
        Play.due("main 4\n GLOBAL 0 'pcall'\n CLOSURE 1 f\n CALL 0 2 1\n GLOBAL 0 'get'\n CALL 0 1 2\n RETURN 0 2\n"
            + "function f 0 0 3 u0\n LOADK 0 #1\n CLOSURE 1 get\n SETGLOBAL 'get' 1\n LOADK 0 #2\n ADD 1 1 1\n RETURN 0 1\n function get 0 0 2 r0\n GETUPVAL 0 0\n RETURN 0 2\n end\n end", "2");
    }

    private static void endTheProgram() {
        Play play = Play.of("main 4\n CLOSURE 0 f\n CALL 0 1 1\n RETURN 0 1\n function f 0 0 3 u0\n GLOBAL 0 'error'\n NEWTABLE 1\n CALL 0 2 1\n RETURN 0 1\n end");
        Due.is("an error that is a table", play.finish(), "error table:61");
        Due.is("frames", play.x.count(9), 0);
        Due.is("what is left: main, its error and not its closures", play.x.collect(), 59);
        Due.is("the error stays", play.results(), "table:61");
    }

    private static void areAnyValues() {
        Due.by("\"error\": its argument is the ERROR.");
        Play.due("main 4\n GLOBAL 0 'pcall'\n GLOBAL 1 'error'\n LOADBOOL 2 0 0\n CALL 0 3 0\n RETURN 0 0", "false false");
        Play.due("main 4\n GLOBAL 0 'pcall'\n GLOBAL 1 'error'\n CALL 0 2 0\n RETURN 0 0", "false nil");
        Play.due("main 4\n GLOBAL 0 'pcall'\n GLOBAL 1 'error'\n LOADK 2 #11\n CALL 0 3 0\n RETURN 0 0", "false 11");
        Play.due("main 4\n GLOBAL 0 'pcall'\n GLOBAL 1 'error'\n LOADK 2 #1\n LOADK 3 #2\n CALL 0 4 0\n RETURN 0 0", "false 1");
    }

    /** A string that doubles without end, inside pcall inside a coroutine inside pcall. */
    private static void areNotCaughtWhenAllIsMade() {
        String doubling = "function grow 0 0 5\n LOADK 0 'ab'\nbody:\n MOVE 1 0\n MOVE 2 0\n CONCAT 0 1 2\n JMP 0 >body\n end";
        Play play = Play.of("main 4\n GLOBAL 0 'pcall'\n GLOBAL 1 'wrap'\n CLOSURE 2 f\n CALL 1 2 2\n SETGLOBAL 'w' 1\n CALL 0 2 0\n RETURN 0 0\n"
            + "function f 0 0 3 u0\n GLOBAL 0 'pcall'\n CLOSURE 1 grow\n CALL 0 2 0\n RETURN 0 0\n" + doubling + "\n end");
        Due.is("bytes", play.finish(), "error 11");
        Due.is("bytes made", play.x.count(8), 335 + 1 + 262_142);
        Due.is("frames", play.x.count(9), 0);
        Due.is("what is left", play.x.collect(), 58 + 1 + 1 + 1 + 1);
        Play tables = Play.of("main 4\n GLOBAL 0 'pcall'\n CLOSURE 1 f\n CALL 0 2 0\n RETURN 0 0\n function f 0 0 3\nbody:\n NEWTABLE 0\n JMP 0 >body\n end");
        Due.is("objects", tables.finish(), "error 11");
        Due.is("objects made", tables.x.count(4), 60_000);
        Play rooms = Play.of("main 4\n GLOBAL 0 'pcall'\n CLOSURE 1 f\n CALL 0 2 0\n RETURN 0 0\n function f 0 0 3\nbody:\n NEWTABLE 0\n SETTABLE 0 #1 #1\n SETTABLE 0 #2 #1\n SETTABLE 0 #3 #1\n SETTABLE 0 #4 #1\n SETTABLE 0 #5 #1\n JMP 0 >body\n end");
        Due.is("room", rooms.finish(), "error 11");
        Due.is("room made", rooms.x.count(7), 61 + (300_000 - 61) / 12 * 12 + 4);
        Play exactly = Play.of("main 4\n CLOSURE 1 f\n CALL 1 1 0\n RETURN 0 0\n function f 0 0 3 u0 u0 u0\nbody:\n NEWTABLE 0\n SETTABLE 0 #1 #1\n SETTABLE 0 #2 #1\n SETTABLE 0 #3 #1\n SETTABLE 0 #4 #1\n SETTABLE 0 #5 #1\n"
            + "SETTABLE 0 #6 #1\n SETTABLE 0 #7 #1\n SETTABLE 0 #8 #1\n SETTABLE 0 #9 #1\n JMP 0 >body\n end");
        Due.is("room", exactly.finish(), "error 11");
        Due.is("just 300,000 of room made", exactly.x.count(7), 300_000);
        Play closures = Play.of("main 4\n GLOBAL 0 'pcall'\n CLOSURE 1 f\n CALL 0 2 0\n RETURN 0 0\n function f 0 0 3 u0 u0 u0\nbody:\n CLOSURE 1 g\n JMP 0 >body\n function g 0 0 2 r0 r0 r0 r0 r0 r0 r0\n RETURN 0 1\n end\n end");
        Due.is("upvalues", closures.finish(), "error 11");
        Due.is("upvalues made", closures.x.count(7), 300_000);
    }

    /** "a" doubled 17 times takes 262,143 bytes, the last string and k of its bytes 131,072 + 2 * k more. */
    private static void leaveJustSoMuchToBeMade() {
        int k = (400_000 - 335 - 262_143 - 131_072) / 2;
        String program = "main 8\n LOADK 0 'a'\n LOADK 1 #1\n LOADK 2 #17\n LOADK 3 #1\n FORPREP 1 >next\nbody:\n MOVE 5 0\n MOVE 6 0\n CONCAT 0 5 6\nnext:\n FORLOOP 1 >body\n"
            + "GLOBAL 1 'sub'\n MOVE 2 0\n LOADK 3 #1\n LOADK 4 #%d\n CALL 1 4 2\n CONCAT 0 0 1\n LEN 0 0\n RETURN 0 2";
        Play most = Play.of(String.format(program, k));
        Due.is("just 400,000 bytes", most.finish(), Long.toString(131_072 + k));
        Due.is("bytes made", most.x.count(8), 400_000);
        Due.is("two more", Play.answer(String.format(program, k + 1)), "error 11");
    }

    /** Where the limit is reached while a variable or a closure is made. */
    private static void comeFromVariablesAndClosures() {
        String fill = "main 8\n NEWTABLE 0\n LOADK 1 #1\n LOADK 2 #%d\n LOADK 3 #1\n FORPREP 1 >next\nbody:\n NEWTABLE 5\n SETTABLE 0 4 5\nnext:\n FORLOOP 1 >body\n CLOSURE 6 f\n RETURN 6 2\n function f 0 0 2 r1 r2\n RETURN 0 1\n end";
        String[] want = {"function:199", "error 10", "error 10", "error 10", "error 10"};
        for (int i = 0; i < want.length; i++) {
            Play play = Play.of(String.format(fill, 136 + i));
            play.x.limit(200);
            Due.is("two variables and a closure beside " + (136 + i) + " tables", play.finish(), want[i]);
            Due.is("existing", play.x.count(3), Math.min(200, 197 + i + (i == 0 ? 3 : i == 1 ? 2 : i == 2 ? 1 : 0)));
        }
    }

    private static void comeFromWhatMakesTooMuch() {
        Play play = Play.of("main 4\n GLOBAL 0 'pcall'\n CLOSURE 1 f\n CALL 0 2 0\n RETURN 0 0\n function f 0 0 3\n NEWTABLE 0\nbody:\n NEWTABLE 1\n SETTABLE 0 1 true\n JMP 0 >body\n end");
        play.x.limit(200);
        Due.is("objects that exist", play.finish(), "false 10");
        Due.is("existing", play.x.count(3), 200);
        Due.is("collections", play.x.count(5), 1);
        Play rooms = Play.of("main 8\n NEWTABLE 0\n LOADK 1 #1\n LOADK 2 #40000\n LOADK 3 #1\n FORPREP 1 >next\nbody:\n SETTABLE 0 4 4\nnext:\n FORLOOP 1 >body\n RETURN 0 1");
        Due.is("rooms that exist", rooms.finish(), "error 10");
        Due.is("rooms", rooms.x.count(6), 32 + 16_384);
    }
}
