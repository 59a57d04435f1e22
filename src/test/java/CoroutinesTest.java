/** Coroutines: giving way anywhere, ends, states, wrappers, and how many may exist. */
public final class CoroutinesTest {
    public static void main(String[] args) {
        passesValuesBothWays();
        tellsStates();
        endsByErrors();
        wraps();
        givesWayAnywhere();
        givesWayInPlaceOfAFrame();
        beginsWithBuiltInFunctions();
        keepsVariablesShared();
        keepsValuesOfVariablesThatWereShared();
        limitsHowMany();
        limitsFramesOfEachAlone();
        Due.end();
    }

    private static void passesValuesBothWays() {
        Due.by("\"yield\": the coroutine gives way with its arguments; what it is resumed with is the result; ERROR 9 in the main one.");
        String f = "\n function f 2 0 6 u0\n GLOBAL 2 'yield'\n ADD 3 0 1\n CALL 2 2 3\n ADD 4 2 3\n RETURN 2 4\n end";
        String begin = "main 12\n GLOBAL 0 'create'\n CLOSURE 1 f\n CALL 0 2 2\n GLOBAL 1 'resume'\n MOVE 2 0\n LOADK 3 #5\n LOADK 4 #6\n CALL 1 4 3\n";
        Play.due(begin + "RETURN 1 3" + f, "true 11");
        Play.due(begin + "GLOBAL 3 'resume'\n MOVE 4 0\n LOADK 5 #1\n LOADK 6 #2\n CALL 3 4 0\n RETURN 3 0" + f, "true 1 2 3");
        Play.due(begin + "GLOBAL 3 'resume'\n MOVE 4 0\n LOADK 5 #1\n LOADK 6 #2\n CALL 3 4 1\n GLOBAL 3 'resume'\n MOVE 4 0\n CALL 3 2 0\n RETURN 3 0" + f, "false 9");
        Play.due("main 3\n GLOBAL 0 'yield'\n CALL 0 1 1\n RETURN 0 1", "error 9");
        Play.due("main 3\n GLOBAL 0 'resume'\n LOADK 1 #1\n CALL 0 2 1\n RETURN 0 1", "error 2");
        Play.due("main 3\n GLOBAL 0 'create'\n NEWTABLE 1\n CALL 0 2 1\n RETURN 0 1", "error 1");
    }

    private static void tellsStates() {
        Due.by("\"suspended\", \"running\", \"normal\" or \"dead\"; \"running\": the coroutine (main: itself) and whether it is the main one.");
        Play.due("main 8\n GLOBAL 0 'running'\n CALL 0 1 3\n GLOBAL 2 'status'\n MOVE 3 0\n CALL 2 2 2\n RETURN 0 4", "coroutine:59 true 'running'");
        Play.due("main 8\n GLOBAL 0 'create'\n CLOSURE 1 f\n CALL 0 2 2\n SETGLOBAL 'c' 0\n GLOBAL 1 'running'\n CALL 1 1 2\n SETGLOBAL 'm' 1\n GLOBAL 1 'status'\n MOVE 2 0\n CALL 1 2 2\n"
            + "GLOBAL 2 'resume'\n MOVE 3 0\n CALL 2 2 5\n GLOBAL 6 'status'\n MOVE 7 0\n CALL 6 2 2\n RETURN 1 7\n"
            + "function f 0 0 6 u0\n GLOBAL 0 'status'\n GLOBAL 1 'c'\n CALL 0 2 2\n GLOBAL 1 'status'\n GLOBAL 2 'm'\n CALL 1 2 2\n GLOBAL 2 'running'\n CALL 2 1 3\n MOVE 2 3\n RETURN 0 4\n end",
            "'suspended' true 'running' 'normal' false 'dead'");
        Play.due("main 8\n GLOBAL 0 'create'\n CLOSURE 1 f\n CALL 0 2 2\n SETGLOBAL 'c' 0\n GLOBAL 2 'resume'\n MOVE 3 0\n CALL 2 2 0\n RETURN 2 0\n"
            + "function f 0 0 4 u0\n GLOBAL 0 'resume'\n GLOBAL 1 'c'\n CALL 0 2 0\n RETURN 0 0\n end", "true false 9");
        Play.due("main 8\n GLOBAL 0 'resume'\n GLOBAL 1 'running'\n CALL 1 1 2\n CALL 0 2 0\n RETURN 0 0", "false 9");
    }

    private static void endsByErrors() {
        Due.by("false and the ERROR, if it ends by one;");
        Play.due("main 8\n GLOBAL 0 'create'\n CLOSURE 1 f\n CALL 0 2 2\n GLOBAL 1 'resume'\n MOVE 2 0\n CALL 1 2 3\n GLOBAL 3 'status'\n MOVE 4 0\n CALL 3 2 2\n RETURN 1 4\n"
            + "function f 0 0 3\n ADD 0 0 0\n RETURN 0 1\n end", "false 3 'dead'");
        Play.due("main 8\n GLOBAL 0 'create'\n CLOSURE 1 f\n CALL 0 2 2\n GLOBAL 1 'resume'\n MOVE 2 0\n CALL 1 2 0\n RETURN 1 0\n"
            + "function f 0 0 4 u0\n GLOBAL 0 'pcall'\n CLOSURE 1 g\n CALL 0 2 0\n RETURN 0 0\n function g 0 0 2\n CALL 0 1 1\n RETURN 0 1\n end\n end", "true false 1");
    }

    private static void wraps() {
        Due.by("\"wrap\" (as create): a function that resumes a new coroutine, which is made first, giving its results, or raising its ERROR (9 likewise).");
        String f = "\n function f 1 0 6 u0\n GLOBAL 1 'yield'\n MOVE 2 0\n CALL 1 2 2\n LOADK 2 #8\n RETURN 1 3\n end\n function bad 0 0 3\n ADD 0 0 0\n RETURN 0 1\n end";
        String begin = "main 8\n GLOBAL 0 'wrap'\n CLOSURE 1 f\n CALL 0 2 2\n MOVE 1 0\n LOADK 2 #4\n CALL 1 2 2\n MOVE 2 0\n LOADK 3 #5\n CALL 2 2 3\n";
        Play.due(begin + "RETURN 1 4" + f, "4 5 8");
        Play.due(begin + "GLOBAL 4 'pcall'\n MOVE 5 0\n CALL 4 2 0\n RETURN 4 0" + f, "false 9");
        Play.due(begin + "MOVE 4 0\n CALL 4 1 1\n RETURN 4 1" + f, "error 9");
        Play.due("main 8\n GLOBAL 0 'wrap'\n CLOSURE 1 bad\n CALL 0 2 2\n MOVE 1 0\n CALL 1 1 1\n RETURN 0 1" + f, "error 3");
        Play.due("main 8\n GLOBAL 0 'pcall'\n GLOBAL 1 'wrap'\n CLOSURE 2 bad\n CALL 1 2 2\n CALL 0 2 0\n RETURN 0 0" + f, "false 3");
        Play.due("main 8\n GLOBAL 0 'wrap'\n CLOSURE 1 f\n CALL 0 2 2\n RETURN 0 2" + f, "function:62");
        Play.due("main 8\n GLOBAL 0 'wrap'\n LOADK 1 'f'\n CALL 0 2 2\n RETURN 0 2" + f, "error 1");
    }

    /** In metamethods of each kind, in an iterator, in pcall, in tostring. */
    private static void givesWayAnywhere() {
        Due.by("coroutines that give way anywhere");
        String[] bodies = {"GETTABLE 1 0 'x'", "ADD 1 0 #1", "UNM 1 0", "LEN 1 0", "LOADK 1 'a'\n MOVE 2 0\n CONCAT 1 1 2", "MOVE 1 0\n CALL 1 1 2",
            "GLOBAL 1 'pcall'\n GLOBAL 2 'yield'\n LOADK 3 #1\n CALL 1 3 3\n MOVE 1 2", "MOVE 1 0\n TFORCALL 1 1\n MOVE 1 4"};
        for (String body : bodies) {
            Play.due(inCoroutine(body + "\n RETURN 1 2"), "42");
        }
        Play.due(inCoroutine("NEWTABLE 1\n LT 1 0 1\n JMP 0 1\n RETURN 0 1\n EQ 0 0 1\n JMP 0 1\n LOADK 1 #42\n RETURN 1 2"), "42");
        Play.due(inCoroutine("SETTABLE 0 'q' #1\n LOADK 1 #42\n RETURN 1 2"), "42");
        Play.due(inCoroutine("GLOBAL 1 'tostring'\n MOVE 2 0\n CALL 1 2 2\n RETURN 1 2").replace("LOADK 4 #42", "LOADK 4 'forty'"), "'forty'");
    }

    /** R(0) has a metatable whose handlers all give way, and give what they are resumed with. */
    private static String inCoroutine(String body) {
        StringBuilder events = new StringBuilder();
        for (String event : "index newindex add unm len concat call lt eq tostring".split(" ")) {
            events.append("SETTABLE 1 '__").append(event).append("' 2\n");
        }
        return "main 8\n GLOBAL 0 'wrap'\n CLOSURE 1 f\n CALL 0 2 2\n MOVE 1 0\n CALL 1 1 2\nagain:\n MOVE 3 0\n LOADK 4 #42\n CALL 3 2 2\n EQ 0 3 #7\n JMP 0 >done\n JMP 0 >again\ndone:\n RETURN 3 2\n"
            + "function f 0 0 8 u0\n NEWTABLE 0\n NEWTABLE 1\n CLOSURE 2 way\n" + events + "GLOBAL 3 'setmetatable'\n MOVE 4 0\n MOVE 5 1\n CALL 3 3 1\n" + body
            + "\n function way 0 1 4 u0\n GLOBAL 0 'yield'\n LOADK 1 #7\n CALL 0 2 2\n RETURN 0 2\n end\n end";
    }

    private static void givesWayInPlaceOfAFrame() {
        Play.due("main 8\n GLOBAL 0 'create'\n CLOSURE 1 f\n CALL 0 2 2\n GLOBAL 1 'resume'\n MOVE 2 0\n CALL 1 2 3\n GLOBAL 3 'resume'\n MOVE 4 0\n LOADK 5 #6\n CALL 3 3 3\n"
            + "GLOBAL 5 'status'\n MOVE 6 0\n CALL 5 2 2\n RETURN 1 6\n function f 0 0 3 u0\n GLOBAL 0 'yield'\n LOADK 1 #5\n TAILCALL 0 2\n end", "true 5 true 6 'dead'");
    }

    private static void beginsWithBuiltInFunctions() {
        String resume = "CALL 0 2 2\n GLOBAL 1 'resume'\n MOVE 2 0\n LOADK 3 'a'\n LOADK 4 'b'\n CALL 1 4 0\n RETURN 1 0";
        Play.due("main 8\n GLOBAL 0 'create'\n GLOBAL 1 'select'\n " + resume, "false 7");
        Play.due("main 8\n GLOBAL 0 'create'\n GLOBAL 1 'type'\n " + resume, "true 'string'");
        Play.due("main 8\n GLOBAL 0 'create'\n GLOBAL 1 'error'\n " + resume, "false 'a'");
        Play.due("main 8\n GLOBAL 0 'create'\n GLOBAL 1 'pcall'\n " + resume, "true false 1");
        Play.due("main 8\n GLOBAL 0 'create'\n GLOBAL 1 'yield'\n " + resume, "true 'a' 'b'");
        Play.due("main 8\n GLOBAL 0 'create'\n GLOBAL 1 'yield'\n CALL 0 2 2\n GLOBAL 1 'resume'\n MOVE 2 0\n CALL 1 2 1\n GLOBAL 1 'resume'\n MOVE 2 0\n LOADK 3 #3\n CALL 1 3 3\n GLOBAL 3 'status'\n MOVE 4 0\n CALL 3 2 2\n RETURN 1 4",
            "true 3 'dead'");
        Play.due("main 8\n GLOBAL 0 'create'\n GLOBAL 1 'wrap'\n GLOBAL 2 'type'\n CALL 1 2 2\n " + resume, "true 'string'");
    }

    /** A variable of a coroutine's frame, seen from outside while it is suspended, and when the coroutine has gone. */
    private static void keepsVariablesShared() {
        String f = "function f 0 0 4 u0\n LOADK 0 #1\n CLOSURE 1 get\n SETGLOBAL 'get' 1\n CLOSURE 1 add\n SETGLOBAL 'add' 1\n GLOBAL 1 'yield'\n CALL 1 1 1\n RETURN 0 2\n"
            + "function get 0 0 2 r0\n GETUPVAL 0 0\n RETURN 0 2\n end\n function add 0 0 2 r0\n GETUPVAL 0 0\n ADD 0 0 #1\n SETUPVAL 0 0\n RETURN 0 1\n end\n end";
        String begin = "main 8\n GLOBAL 0 'wrap'\n CLOSURE 1 f\n CALL 0 2 2\n MOVE 1 0\n CALL 1 1 1\n GLOBAL 1 'add'\n CALL 1 1 1\n GLOBAL 1 'get'\n CALL 1 1 2\n";
        Play.due(begin + "MOVE 2 0\n CALL 2 1 2\n RETURN 1 3\n" + f, "2 2");
        Play.due(begin + "LOADNIL 0 0\n GLOBAL 2 'collect'\n CALL 2 1 1\n NEWTABLE 2\n GLOBAL 3 'create'\n GLOBAL 4 'print'\n CALL 3 2 1\n GLOBAL 2 'add'\n CALL 2 1 1\n GLOBAL 2 'get'\n CALL 2 1 2\n RETURN 1 3\n" + f, "2 3");
    }

    private static void keepsValuesOfVariablesThatWereShared() {
        Play.due("main 8\n GLOBAL 0 'wrap'\n CLOSURE 1 f\n CALL 0 2 2\n CALL 0 1 1\n LOADNIL 0 1\n GLOBAL 2 'collect'\n CALL 2 1 2\n NEWTABLE 3\n NEWTABLE 4\n GLOBAL 0 'get'\n CALL 0 1 2\n GETTABLE 0 0 'x'\n MOVE 1 2\n RETURN 0 3\n"
            + "function f 0 0 4 u0\n NEWTABLE 0\n SETTABLE 0 'x' #5\n CLOSURE 1 get\n SETGLOBAL 'get' 1\n GLOBAL 1 'yield'\n CALL 1 1 1\n RETURN 0 2\n function get 0 0 2 r0\n GETUPVAL 0 0\n RETURN 0 2\n end\n end",
            "5 65");
        Play.due("main 8\n GLOBAL 0 'resume'\n GLOBAL 1 'create'\n CLOSURE 2 f\n CALL 1 2 2\n CALL 0 2 1\n GLOBAL 0 'resume'\n GLOBAL 1 'create'\n CLOSURE 2 g\n CALL 1 2 2\n CALL 0 2 1\n GLOBAL 0 'get'\n CALL 0 1 2\n RETURN 0 2\n"
            + "function f 0 0 4 u0\n LOADK 0 #8\n CLOSURE 1 get\n SETGLOBAL 'get' 1\n ADD 1 1 1\n RETURN 0 2\n function get 0 0 2 r0\n GETUPVAL 0 0\n RETURN 0 2\n end\n end\n"
            + "function g 0 0 4\n LOADK 0 #9\n RETURN 0 1\n end", "8");
    }

    private static void limitsHowMany() {
        Play play = Play.of("main 8\n NEWTABLE 0\n LOADK 1 #1\n LOADK 2 #99\n LOADK 3 #1\n FORPREP 1 >next\nbody:\n GLOBAL 5 'create'\n GLOBAL 6 'print'\n CALL 5 2 2\n SETTABLE 0 4 5\nnext:\n FORLOOP 1 >body\n RETURN 0 1");
        Due.is("the 33rd", play.finish(), "error 10");
        Due.is("coroutines", play.x.count(11), 32);
        Due.is("collections", play.x.count(5), 1);
        Play loose = Play.of("main 8\n LOADK 1 #1\n LOADK 2 #99\n LOADK 3 #1\n FORPREP 1 >next\nbody:\n GLOBAL 5 'create'\n GLOBAL 6 'print'\n CALL 5 2 2\nnext:\n FORLOOP 1 >body\n LOADK 0 #1\n RETURN 0 2");
        Due.is("loose ones go", loose.finish(), "1");
        Due.is("collections", loose.x.count(5), 3);
    }

    private static void limitsFramesOfEachAlone() {
        String f = "\n function f 1 0 4 u0\n GLOBAL 1 'n'\n ADD 1 1 #1\n SETGLOBAL 'n' 1\n GLOBAL 1 'f'\n CALL 1 1 1\n RETURN 0 1\n end\n function g 0 0 4 u0\n GLOBAL 0 'resume'\n GLOBAL 1 'create'\n GLOBAL 2 'f'\n CALL 1 2 2\n CALL 0 2 0\n RETURN 0 0\n end";
        Play.due("main 4\n SETGLOBAL 'n' #0\n CLOSURE 0 f\n SETGLOBAL 'f' 0\n CLOSURE 0 g\n CALL 0 1 3\n GLOBAL 2 'n'\n RETURN 0 4" + f, "false 4 200");
    }
}
