/** What single instructions do to registers, variables and the place where the program goes on. */
public final class InstructionsTest {
    public static void main(String[] args) {
        loadsAndMoves();
        reckons();
        shifts();
        raisesWhatCanNotBeReckoned();
        joins();
        compares();
        testsAndSkips();
        loops();
        takesFurtherArguments();
        sharesVariables();
        Due.end();
    }

    private static void loadsAndMoves() {
        Play.due("main 6\n LOADK 0 #7\n MOVE 1 0\n LOADBOOL 2 0 0\n LOADBOOL 3 9 0\n LOADNIL 4 1\n RETURN 0 7", "7 7 false true nil nil");
        Play.due("main 4\n LOADK 0 #1\n LOADK 1 #2\n LOADK 2 #3\n LOADK 3 #4\n LOADNIL 1 1\n RETURN 0 5", "1 nil nil 4");
        Play.due("main 3\n LOADBOOL 0 1 1\n LOADK 0 #5\n RETURN 0 2", "true");
        Play.due("main 3\n LOADBOOL 0 1 0\n LOADK 0 #5\n RETURN 0 2", "5");
        Play.due("main 3\n NEWTABLE 0\n SETTABLE 0 'm' #6\n MOVE 2 0\n SELF 0 2 'm'\n EQ 1 1 2\n JMP 0 1\n LOADNIL 0 0\n RETURN 0 2", "6");
        Play.due("main 3\n SETGLOBAL 'x' #9\n GLOBAL 0 'x'\n GETUPVAL 1 0\n GETTABLE 1 1 'x'\n RETURN 0 3", "9 9");
        Play.due("main 3\n LOADK 0 #4\n SETUPVAL 0 0\n GETUPVAL 1 0\n RETURN 1 2", "4");
    }

    private static void reckoned(String operation, String x, String y, String want) {
        Play.due("main 3\n LOADK 0 " + x + "\n LOADK 1 " + y + "\n " + operation + " 2 0 1\n RETURN 2 2", want);
    }

    private static void reckons() {
        reckoned("ADD", "#9223372036854775807", "#1", "-9223372036854775808");
        reckoned("SUB", "#-9223372036854775808", "#1", "9223372036854775807");
        reckoned("MUL", "#4294967296", "#4294967297", "4294967296");
        reckoned("MOD", "#7", "#3", "1");
        reckoned("MOD", "#-7", "#3", "2");
        reckoned("MOD", "#7", "#-3", "-2");
        reckoned("MOD", "#-7", "#-3", "-1");
        reckoned("MOD", "#-9223372036854775808", "#-1", "0");
        reckoned("IDIV", "#7", "#2", "3");
        reckoned("IDIV", "#-7", "#2", "-4");
        reckoned("IDIV", "#7", "#-2", "-4");
        reckoned("IDIV", "#-9223372036854775808", "#-1", "-9223372036854775808");
        reckoned("BAND", "#12", "#10", "8");
        reckoned("BOR", "#12", "#10", "14");
        reckoned("BXOR", "#12", "#-1", "-13");
        Play.due("main 4\n LOADK 0 #5\n UNM 1 0\n BNOT 2 0\n NOT 3 0\n RETURN 1 4", "-5 -6 false");
        Play.due("main 3\n LOADK 0 #-9223372036854775808\n UNM 1 0\n LOADNIL 0 0\n NOT 2 0\n RETURN 1 3", "-9223372036854775808 true");
    }

    private static void shifts() {
        reckoned("SHL", "#1", "#63", "-9223372036854775808");
        reckoned("SHL", "#1", "#64", "0");
        reckoned("SHL", "#-1", "#-1", "9223372036854775807");
        reckoned("SHL", "#-1", "#-64", "0");
        reckoned("SHL", "#-1", "#-63", "1");
        reckoned("SHR", "#-1", "#1", "9223372036854775807");
        reckoned("SHR", "#-1", "#63", "1");
        reckoned("SHR", "#-1", "#64", "0");
        reckoned("SHR", "#1", "#-63", "-9223372036854775808");
        reckoned("SHR", "#1", "#-64", "0");
        reckoned("SHR", "#5", "#-9223372036854775808", "0");
        reckoned("SHL", "#5", "#-9223372036854775808", "0");
        reckoned("SHL", "#5", "#0", "5");
    }

    private static void raisesWhatCanNotBeReckoned() {
        reckoned("MOD", "#1", "#0", "error 5");
        reckoned("IDIV", "#1", "#0", "error 5");
        for (String operation : "ADD SUB MUL MOD IDIV BAND BOR BXOR SHL SHR".split(" ")) {
            reckoned(operation, "'1'", "#1", "error 3");
            reckoned(operation, "#1", "nil", "error 3");
        }
        Play.due("main 2\n LOADK 0 '1'\n UNM 0 0\n RETURN 0 2", "error 3");
        Play.due("main 2\n BNOT 0 0\n RETURN 0 2", "error 3");
        Play.due("main 2\n LOADK 0 #1\n LEN 0 0\n RETURN 0 2", "error 2");
        Play.due("main 2\n LOADK 0 #1\n GETTABLE 0 0 #1\n RETURN 0 2", "error 2");
        Play.due("main 2\n LOADK 0 'a'\n SETTABLE 0 #1 #1\n RETURN 0 2", "error 2");
        Play.due("main 3\n SELF 0 0 'x'\n RETURN 0 2", "error 2");
    }

    private static void joins() {
        Play.due("main 4\n LOADK 0 'a'\n LOADK 1 #-12\n LOADK 2 'b'\n CONCAT 3 0 2\n RETURN 3 2", "'a-12b'");
        Play.due("main 4\n LOADK 0 #0\n LOADK 1 #-9223372036854775808\n CONCAT 3 0 1\n LEN 2 3\n RETURN 2 3", "21 '0-9223372036854775808'");
        Play.due("main 4\n LOADK 0 'a'\n LOADK 1 true\n CONCAT 3 0 1\n RETURN 3 2", "error 3");
        Play.due("main 4\n LOADK 0 ''\n LOADK 1 ''\n CONCAT 3 0 1\n LEN 2 3\n RETURN 2 3", "0 ''");
        Play play = Play.of("main 5\n LOADK 0 'a'\n LOADK 1 'b'\n LOADK 2 'c'\n LOADK 3 'd'\n CONCAT 4 0 3\n CONCAT 4 0 3\n RETURN 4 2");
        play.finish();
        Due.is("two at a time, from the right: cd, bcd, abcd are made, each once", play.counts(3, 4), "67 67");
        Due.is("their bytes", play.x.count(8), 335 + 4 + 9);
    }

    private static void compared(String operation, String x, String y, String want) {
        Play.due("main 3\n LOADK 0 " + x + "\n LOADK 1 " + y + "\n " + operation + " 1 0 1\n JMP 0 2\n LOADBOOL 2 0 0\n RETURN 2 2\n LOADBOOL 2 1 0\n RETURN 2 2", want);
        Play.due("main 3\n LOADK 0 " + x + "\n LOADK 1 " + y + "\n " + operation + " 0 0 1\n JMP 0 2\n LOADBOOL 2 1 0\n RETURN 2 2\n LOADBOOL 2 0 0\n RETURN 2 2", want);
    }

    private static void compares() {
        compared("EQ", "#1", "#1", "true");
        compared("EQ", "#1", "#2", "false");
        compared("EQ", "#1", "'1'", "false");
        compared("EQ", "nil", "false", "false");
        compared("EQ", "false", "false", "true");
        compared("EQ", "'ab'", "'ab'", "true");
        compared("LT", "#-1", "#0", "true");
        compared("LT", "#0", "#0", "false");
        compared("LE", "#0", "#0", "true");
        compared("LE", "#1", "#0", "false");
        compared("LT", "'a'", "'ab'", "true");
        compared("LT", "'ab'", "'a'", "false");
        compared("LT", "''", "'a'", "true");
        compared("LT", "'z'", "'\u00ff'", "true");
        compared("LE", "'b'", "'aa'", "false");
        compared("LE", "'a'", "'a'", "true");
        Play.due("main 3\n LOADK 0 #1\n LT 1 0 'a'\n JMP 0 0\n RETURN 0 1", "error 3");
        Play.due("main 3\n LOADK 0 true\n LE 1 0 true\n JMP 0 0\n RETURN 0 1", "error 3");
    }

    private static void testsAndSkips() {
        for (String value : new String[] {"nil", "false", "true", "#0", "''"}) {
            boolean truth = !value.equals("nil") && !value.equals("false");
            Play.due("main 3\n LOADK 0 " + value + "\n TEST 0 0\n JMP 0 2\n LOADK 1 #1\n RETURN 1 2\n LOADK 1 #0\n RETURN 1 2", truth ? "1" : "0");
            Play.due("main 3\n LOADK 0 " + value + "\n TEST 0 1\n JMP 0 2\n LOADK 1 #1\n RETURN 1 2\n LOADK 1 #0\n RETURN 1 2", truth ? "0" : "1");
        }
        Play.due("main 3\n LOADK 0 #5\n LOADK 1 #6\n TESTSET 1 0 1\n JMP 0 0\n RETURN 1 2", "5");
        Play.due("main 3\n LOADK 0 #5\n LOADK 1 #6\n TESTSET 1 0 0\n JMP 0 0\n RETURN 1 2", "6");
        Play.due("main 3\n LOADNIL 0 0\n LOADK 1 #6\n TESTSET 1 0 0\n JMP 0 0\n RETURN 1 2", "nil");
        Play play = Play.of("main 3\n TESTSET 1 0 0\n JMP 0 0\n RETURN 1 2");
        play.finish();
        Due.is("a jump behind a test is a step of its own", play.x.count(2), 3);
    }

    private static void loop(String from, String to, String by, String want) {
        Play.due("main 8\n LOADK 0 " + from + "\n LOADK 1 " + to + "\n LOADK 2 " + by + "\n LOADK 4 #0\n FORPREP 0 >next\nbody:\n ADD 4 4 #1\n LT 1 #9 4\n JMP 0 >out\nnext:\n FORLOOP 0 >body\n"
            + "out:\n RETURN 3 3", want);
    }

    private static void loops() {
        loop("#1", "#3", "#1", "3 3");
        loop("#3", "#1", "#1", "nil 0");
        loop("#3", "#1", "#-1", "1 3");
        loop("#1", "#2", "#2", "1 1");
        loop("#1", "#1", "#0", "1 10");
        loop("#1", "#2", "#0", "nil 0");
        loop("#9223372036854775806", "#9223372036854775807", "#1", "-9223372036854775801 10");
        loop("'1'", "#2", "#1", "error 3");
        loop("#1", "nil", "#1", "error 3");
        loop("#1", "#2", "'1'", "error 3");
        Play.due("main 8\n LOADK 0 #1\n LOADK 1 #9\n LOADK 2 'a'\n FORLOOP 0 0\n RETURN 0 1", "error 3");
        Play.due("main 6\n NEWTABLE 5\n SETTABLE 5 'a' #4\n SETTABLE 5 'b' #5\n GLOBAL 0 'next'\n MOVE 1 5\n LOADNIL 2 0\n JMP 0 >in\nbody:\n SETGLOBAL 'last' 3\n"
            + "in:\n TFORCALL 0 1\n TFORLOOP 2 >body\n GLOBAL 4 'last'\n RETURN 2 4", "'b' nil 'b'");
        Play.due("main 7\n CLOSURE 0 f\n LOADK 1 #3\n LOADK 2 #4\n TFORCALL 0 3\n RETURN 3 4\n function f 2 0 3\n RETURN 0 3\n end", "3 4 nil");
        Play.due("main 4\n LOADNIL 0 3\n TFORCALL 0 1\n RETURN 0 1", "error 1");
    }

    private static void takesFurtherArguments() {
        String f = "function f 1 1 5\n VARARG 1 4\n RETURN 0 5\n end";
        Play.due("main 6\n CLOSURE 0 f\n LOADK 1 #1\n LOADK 2 #2\n LOADK 3 #3\n CALL 0 4 5\n RETURN 0 5\n" + f, "1 2 3 nil");
        Play.due("main 6\n CLOSURE 0 f\n CALL 0 1 5\n RETURN 0 5\n" + f, "nil nil nil nil");
        Play.due("main 6\n CLOSURE 0 f\n LOADK 1 #1\n LOADK 2 #2\n LOADK 3 #3\n LOADK 4 #4\n CALL 0 5 1\n CLOSURE 0 f\n LOADK 1 #1\n LOADK 2 #2\n CALL 0 3 5\n RETURN 0 5\n" + f, "1 2 nil nil");
        Play.due("main 6\n VARARG 0 0\n RETURN 0 0", "");
        Play.due("main 6\n LOADK 0 #1\n LOADK 1 #2\n LOADK 2 #3\n VARARG 1 2\n RETURN 0 4", "1 nil 3");
        Play.due("main 6\n LOADK 0 #1\n VARARG 0 1\n RETURN 0 2", "1");
        Play.due("main 6\n CLOSURE 0 f\n LOADK 1 #1\n LOADK 2 #2\n CALL 0 3 0\n RETURN 0 0\n function f 0 0 4\n VARARG 0 0\n RETURN 0 0\n end", "");
        Play.due("main 6\n CLOSURE 0 f\n LOADK 1 #1\n LOADK 2 #2\n LOADK 3 #3\n CALL 0 4 0\n RETURN 0 0\n function f 1 1 4\n LOADK 1 #9\n VARARG 2 0\n RETURN 0 0\n end", "1 9 2 3");
        Play.due("main 6\n CLOSURE 0 f\n LOADK 1 #1\n LOADK 2 #2\n CALL 0 3 2\n LEN 1 0\n GETTABLE 2 0 #5\n RETURN 1 3\n"
            + "function f 0 1 4\n NEWTABLE 0\n LOADK 1 #7\n VARARG 2 0\n SETLIST 0 0 3\n SETTABLE 0 #1 #0\n SETTABLE 0 #2 #0\n RETURN 0 2\n end", "5 2");
    }

    private static void sharesVariables() {
        Play.due("main 4\n CLOSURE 0 f\n CLOSURE 1 f\n NEWTABLE 2\n RETURN 0 4\n function f 0 0 2 r2 u0 r3\n RETURN 0 1\n end", "function:62 function:63 table:64");
        String two = "function get 0 0 2 r0\n GETUPVAL 0 0\n RETURN 0 2\n end\n function add 0 0 2 r0\n GETUPVAL 0 0\n ADD 0 0 #1\n SETUPVAL 0 0\n RETURN 0 1\n end";
        Play.due("main 4\n LOADK 0 #1\n CLOSURE 1 get\n CLOSURE 2 add\n CALL 2 1 1\n CALL 1 1 2\n RETURN 0 2\n" + two, "2");
        Play.due("main 4\n LOADK 0 #1\n CLOSURE 1 get\n CLOSURE 2 add\n JMP 1 0\n LOADK 0 #50\n CALL 2 1 1\n CALL 1 1 2\n RETURN 0 2\n" + two, "50");
        Play.due("main 4\n LOADK 0 #1\n CLOSURE 1 get\n CLOSURE 2 add\n JMP 1 0\n LOADK 0 #50\n CALL 2 1 1\n CALL 1 1 2\n RETURN 1 2\n" + two, "2");
        Play.due("main 4\n LOADK 0 #1\n CLOSURE 1 get\n CLOSURE 2 add\n JMP 2 0\n LOADK 0 #50\n CALL 2 1 1\n CALL 1 1 2\n RETURN 1 2\n" + two, "51");
        Play.due("main 5\n LOADK 0 #1\n CLOSURE 1 get\n JMP 1 0\n CLOSURE 2 add\n CALL 2 1 1\n CALL 1 1 2\n RETURN 0 2\n" + two, "2");
        Play.due("main 3\n CLOSURE 0 outer\n LOADK 1 #5\n CALL 0 2 2\n CALL 0 1 2\n RETURN 0 2\n"
            + "function outer 1 0 2\n CLOSURE 1 middle\n TAILCALL 1 1\n function middle 0 0 2 r0\n CLOSURE 0 inner\n RETURN 0 2\n"
            + "function inner 0 0 2 u0\n GETUPVAL 0 0\n RETURN 0 2\n end\n end\n end", "5");
    }
}
