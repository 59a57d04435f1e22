/** What single instructions do to registers, variables and the place where the program goes on, number by number. */
public final class InstructionsTest {
    public static void main(String[] args) {
        readsItsFields();
        loadsAndMoves();
        readsAndWritesTables();
        reckons();
        shifts();
        raisesWhatCanNotBeReckoned();
        joins();
        compares();
        testsAndSkips();
        loops();
        takesFurtherArguments();
        sharesVariables();
        Due.end();
    }

    /** The numbers are written out, so that they do not depend on how the other tests put instructions together. */
    private static void readsItsFields() {
        Due.by("INSTRUCTION: bits 0 to 5 the operation, 6 to 13 A, 14 to 22 C, 23 to 31 B; or 14 to 31 Bx; sBx = Bx - 131,071.");
        String values = "main 6\n LOADK 0 #10\n LOADK 1 #3\n LOADK 2 #5\n";
        Play.due(values + "RAW 16526\n RETURN 2 2", "7");
        Play.due(values + "RAW 8388750\n RETURN 2 2", "-7");
        Play.due(values + "RAW 4194446\n RETURN 2 2", "0");
        Play.due(values + "RAW 2147500174\n RETURN 2 2", "7");
        Play.due(values + "RAW 33025\n RETURN 4 2", "5");
        Play.due(values + "RAW 8388928\n RETURN 5 2", "3");
        Play.due(values + "RAW 2147483678\n LOADK 0 #1\n RETURN 0 2", "10");
        Play.due(values + "RAW 2147467294\n LOADK 0 #1\n RETURN 0 2", "1");
    }

    private static void loadsAndMoves() {
        Due.by("0 R(A) = R(B). 1 R(A) = K(Bx).");
        Play.due("main 6\n LOADK 0 #7\n MOVE 1 0\n LOADBOOL 2 0 0\n LOADBOOL 3 9 0\n LOADNIL 4 1\n RETURN 0 7", "7 7 false true nil nil");
        Play.due("main 4\n LOADK 0 #1\n LOADK 1 #2\n LOADK 2 #3\n LOADK 3 #4\n LOADNIL 1 1\n RETURN 0 5", "1 nil nil 4");
        Due.by("3 R(A) = (B is not 0); C not 0: skip.");
        Play.due("main 3\n LOADBOOL 0 1 1\n LOADK 0 #5\n RETURN 0 2", "true");
        Play.due("main 3\n LOADBOOL 0 1 0\n LOADK 0 #5\n RETURN 0 2", "5");
        Due.by("5 R(A) = U(B).");
        Play.due("main 3\n LOADK 0 #4\n SETUPVAL 0 0\n GETUPVAL 1 0\n RETURN 1 2", "4");
    }

    private static void readsAndWritesTables() {
        Due.by("12 v = R(B), R(A + 1) = v, R(A) = v[RK(C)].");
        Play.due("main 3\n NEWTABLE 0\n SETTABLE 0 'm' #6\n MOVE 2 0\n SELF 0 2 'm'\n EQ 1 1 2\n JMP 0 1\n LOADNIL 0 0\n RETURN 0 2", "6");
        Due.by("6 R(A) = U(B)[RK(C)]. 7 R(A) = R(B)[RK(C)].");
        Play.due("main 3\n SETGLOBAL 'x' #9\n GLOBAL 0 'x'\n GETUPVAL 1 0\n GETTABLE 1 1 'x'\n RETURN 0 3", "9 9");
        Play.due("main 4\n LOADK 3 'x'\n SETGLOBAL 3 3\n GETTABUP 0 0 3\n GETUPVAL 1 0\n GETTABLE 1 1 3\n RETURN 0 3", "'x' 'x'");
        Due.by("10 R(A)[RK(B)] = RK(C). 11 R(A) = a new table.");
        Play.due("main 4\n LOADK 1 'k'\n LOADK 2 #5\n NEWTABLE 0\n SETTABLE 0 1 2\n SETTABLE 0 2 'k'\n SETTABLE 0 #7 #8\n GETTABLE 1 0 'k'\n GETTABLE 2 0 #5\n GETTABLE 3 0 #7\n RETURN 1 4", "5 'k' 8");
        Play.due("main 2\n NEWTABLE 0\n NEWTABLE 1\n RETURN 0 3", "table:60 table:61");
    }

    private static void reckoned(String operation, String x, String y, String want) {
        Play.due("main 3\n LOADK 0 " + x + "\n LOADK 1 " + y + "\n " + operation + " 2 0 1\n RETURN 2 2", want);
    }

    private static void reckons() {
        Due.by("13 + 14 - 15 * 16 modulo 19 whole quotient 20 and 21 or 22 exclusive or 23 shifted left 24 shifted right: R(A) = RK(B) op RK(C).");
        reckoned("ADD", "#9223372036854775807", "#1", "-9223372036854775808");
        reckoned("SUB", "#-9223372036854775808", "#1", "9223372036854775807");
        reckoned("MUL", "#4294967296", "#4294967297", "4294967296");
        reckoned("MOD", "#7", "#3", "1");
        reckoned("MOD", "#-7", "#3", "2");
        reckoned("MOD", "#7", "#-3", "-2");
        reckoned("MOD", "#-7", "#-3", "-1");
        reckoned("MOD", "#-9223372036854775808", "#-1", "0");
        reckoned("IDIV", "#7", "#2", "3");
        reckoned("IDIV", "#-7", "#2", "-4");
        reckoned("IDIV", "#7", "#-2", "-4");
        reckoned("IDIV", "#-9223372036854775808", "#-1", "-9223372036854775808");
        reckoned("BAND", "#12", "#10", "8");
        reckoned("BOR", "#12", "#10", "14");
        reckoned("BXOR", "#12", "#-1", "-13");
        Play.due("main 4\n ADD 0 #2 #3\n SUB 1 0 #3\n MUL 2 #7 1\n RETURN 0 4", "5 2 14");
        Due.by("25 negated 26 all bits turned 27 not 28 length: R(A) = op R(B).");
        Play.due("main 4\n LOADK 0 'abc'\n LEN 1 0\n RETURN 0 3", "'abc' 3");
        Play.due("main 4\n LOADK 0 #5\n UNM 1 0\n BNOT 2 0\n NOT 3 0\n RETURN 1 4", "-5 -6 false");
        Play.due("main 3\n LOADK 0 #-9223372036854775808\n UNM 1 0\n LOADNIL 0 0\n NOT 2 0\n RETURN 1 3", "-9223372036854775808 true");
    }

    private static void shifts() {
        Due.by("Shifts: by 64 or more: 0; by less than 0: the other way; zeros come in on both sides.");
        reckoned("SHL", "#1", "#63", "-9223372036854775808");
        reckoned("SHL", "#1", "#64", "0");
        reckoned("SHL", "#-1", "#-1", "9223372036854775807");
        reckoned("SHL", "#-1", "#-64", "0");
        reckoned("SHL", "#-1", "#-63", "1");
        reckoned("SHR", "#-1", "#1", "9223372036854775807");
        reckoned("SHR", "#-1", "#63", "1");
        reckoned("SHR", "#-1", "#64", "0");
        reckoned("SHR", "#1", "#-63", "-9223372036854775808");
        reckoned("SHR", "#1", "#-64", "0");
        reckoned("SHR", "#5", "#-9223372036854775808", "0");
        reckoned("SHL", "#5", "#-9223372036854775808", "0");
        reckoned("SHL", "#5", "#0", "5");
    }

    private static void raisesWhatCanNotBeReckoned() {
        Due.by("by 0: ERROR 5.");
        reckoned("MOD", "#1", "#0", "error 5");
        reckoned("IDIV", "#1", "#0", "error 5");
        Due.by("none: ERROR 3.");
        for (String operation : "ADD SUB MUL MOD IDIV BAND BOR BXOR SHL SHR".split(" ")) {
            reckoned(operation, "'1'", "#1", "error 3");
            reckoned(operation, "#1", "nil", "error 3");
        }
        Play.due("main 2\n LOADK 0 '1'\n UNM 0 0\n RETURN 0 2", "error 3");
        Play.due("main 2\n BNOT 0 0\n RETURN 0 2", "error 3");
        Due.by("else ERROR 2.");
        Play.due("main 2\n LOADK 0 #1\n LEN 0 0\n RETURN 0 2", "error 2");
        Due.by("no table: ERROR 2.");
        Play.due("main 2\n LOADK 0 #1\n GETTABLE 0 0 #1\n RETURN 0 2", "error 2");
        Play.due("main 2\n LOADK 0 'a'\n SETTABLE 0 #1 #1\n RETURN 0 2", "error 2");
        Play.due("main 3\n SELF 0 0 'x'\n RETURN 0 2", "error 2");
    }

    private static void joins() {
        Due.by("29: from the right, two at a time: both strings or integers: joined;");
        Play.due("main 4\n LOADK 0 'a'\n LOADK 1 #-12\n LOADK 2 'b'\n CONCAT 3 0 2\n RETURN 3 2", "'a-12b'");
        Play.due("main 4\n LOADK 0 #0\n LOADK 1 #-9223372036854775808\n CONCAT 3 0 1\n LEN 2 3\n RETURN 2 3", "21 '0-9223372036854775808'");
        Play.due("main 4\n LOADK 0 'a'\n LOADK 1 true\n CONCAT 3 0 1\n RETURN 3 2", "error 3");
        Play.due("main 4\n LOADK 0 ''\n LOADK 1 ''\n CONCAT 3 0 1\n LEN 2 3\n RETURN 2 3", "0 ''");
        Play play = Play.of("main 5\n LOADK 0 'a'\n LOADK 1 'b'\n LOADK 2 'c'\n LOADK 3 'd'\n CONCAT 4 0 3\n CONCAT 4 0 3\n RETURN 4 2");
        play.finish();
        Due.is("two at a time, from the right: cd, bcd, abcd are made, each once", play.counts(3, 4), "67 67");
        Due.is("their bytes", play.x.count(8), 335 + 4 + 9);
    }

    private static void compared(String operation, String x, String y, String want) {
        Play.due("main 3\n LOADK 0 " + x + "\n LOADK 1 " + y + "\n " + operation + " 1 0 1\n JMP 0 2\n LOADBOOL 2 0 0\n RETURN 2 2\n LOADBOOL 2 1 0\n RETURN 2 2", want);
        Play.due("main 3\n LOADK 0 " + x + "\n LOADK 1 " + y + "\n " + operation + " 0 0 1\n JMP 0 2\n LOADBOOL 2 1 0\n RETURN 2 2\n LOADBOOL 2 0 0\n RETURN 2 2", want);
    }

    private static void compares() {
        Due.by("31 equal 32 less 33 less or equal: RK(B) and RK(C), A 0 or 1: if that is not A, skip.");
        compared("EQ", "#1", "#1", "true");
        compared("EQ", "#1", "#2", "false");
        compared("EQ", "#1", "'1'", "false");
        compared("EQ", "nil", "false", "false");
        compared("EQ", "false", "false", "true");
        compared("EQ", "'ab'", "'ab'", "true");
        compared("LT", "#-1", "#0", "true");
        compared("LT", "#0", "#0", "false");
        compared("LE", "#0", "#0", "true");
        compared("LE", "#1", "#0", "false");
        compared("LT", "'a'", "'ab'", "true");
        compared("LT", "'ab'", "'a'", "false");
        compared("LT", "''", "'a'", "true");
        compared("LT", "'z'", "'\u00ff'", "true");
        compared("LE", "'b'", "'aa'", "false");
        compared("LE", "'a'", "'a'", "true");
        Play.due("main 3\n LOADK 0 #1\n LT 1 0 'a'\n JMP 0 0\n RETURN 0 1", "error 3");
        Play.due("main 3\n LOADK 0 true\n LE 1 0 true\n JMP 0 0\n RETURN 0 1", "error 3");
    }

    private static void testsAndSkips() {
        Due.by("34 if R(A) is true and C 0, or false and C 1: skip.");
        for (String value : new String[] {"nil", "false", "true", "#0", "''"}) {
            boolean truth = !value.equals("nil") && !value.equals("false");
            Play.due("main 3\n LOADK 0 " + value + "\n TEST 0 0\n JMP 0 2\n LOADK 1 #1\n RETURN 1 2\n LOADK 1 #0\n RETURN 1 2", truth ? "1" : "0");
            Play.due("main 3\n LOADK 0 " + value + "\n TEST 0 1\n JMP 0 2\n LOADK 1 #1\n RETURN 1 2\n LOADK 1 #0\n RETURN 1 2", truth ? "0" : "1");
        }
        Due.by("35 if R(B) is true and C 1, or false and C 0: R(A) = R(B), else skip.");
        Play.due("main 3\n LOADK 0 #5\n LOADK 1 #6\n TESTSET 1 0 1\n JMP 0 0\n RETURN 1 2", "5");
        Play.due("main 3\n LOADK 0 #5\n LOADK 1 #6\n TESTSET 1 0 0\n JMP 0 0\n RETURN 1 2", "6");
        Play.due("main 3\n LOADNIL 0 0\n LOADK 1 #6\n TESTSET 1 0 0\n JMP 0 0\n RETURN 1 2", "nil");
        Due.by("STEP: one instruction.");
        Play play = Play.of("main 3\n TESTSET 1 0 0\n JMP 0 0\n RETURN 1 2");
        play.finish();
        Due.is("a jump behind a test is a step of its own", play.x.count(2), 3);
    }

    private static void loop(String from, String to, String by, String want) {
        Play.due("main 8\n LOADK 0 " + from + "\n LOADK 1 " + to + "\n LOADK 2 " + by + "\n LOADK 4 #0\n FORPREP 0 >next\nbody:\n ADD 4 4 #1\n LT 1 #9 4\n JMP 0 >out\nnext:\n FORLOOP 0 >body\n"
            + "out:\n RETURN 3 3", want);
    }

    private static void loops() {
        Due.by("39 R(A) += R(A + 2); if R(A + 2) is above 0 and R(A) not above R(A + 1), or not above 0 and R(A) not below R(A + 1): PC += sBx, R(A + 3) = R(A). 40 R(A) -= R(A + 2), PC += sBx;");
        loop("#1", "#3", "#1", "3 3");
        loop("#3", "#1", "#1", "nil 0");
        loop("#3", "#1", "#-1", "1 3");
        loop("#1", "#2", "#2", "1 1");
        loop("#1", "#1", "#0", "1 10");
        loop("#1", "#2", "#0", "nil 0");
        loop("#9223372036854775806", "#9223372036854775807", "#1", "-9223372036854775801 10");
        Play.due("main 5\n LOADK 0 #7\n LOADK 1 #9\n LOADK 2 #3\n FORPREP 0 0\n RETURN 0 5", "4 9 3 nil");
        Play.due("main 5\n LOADK 0 #7\n LOADK 1 #9\n LOADK 2 #2\n FORLOOP 0 1\n LOADK 3 #1\n RETURN 0 5", "9 9 2 9");
        Play.due("main 5\n LOADK 0 #7\n LOADK 1 #9\n LOADK 2 #3\n FORLOOP 0 1\n LOADK 3 #1\n RETURN 0 5", "10 9 3 1");
        Due.by("ERROR 3 if one of R(A + 1), R(A + 2), R(A), in this order, is no integer (39 likewise: R(A + 2), R(A), R(A + 1)).");
        loop("'1'", "#2", "#1", "error 3");
        loop("#1", "nil", "#1", "error 3");
        loop("#1", "#2", "'1'", "error 3");
        Play.due("main 8\n LOADK 0 #1\n LOADK 1 #9\n LOADK 2 'a'\n FORLOOP 0 0\n RETURN 0 1", "error 3");
        Due.by("41 R(A) is called with R(A + 1), R(A + 2): C results, 1 or more, to R(A + 3) on. 42 R(A + 1) not nil: R(A) = it, PC += sBx.");
        Play.due("main 6\n NEWTABLE 5\n SETTABLE 5 'a' #4\n SETTABLE 5 'b' #5\n GLOBAL 0 'next'\n MOVE 1 5\n LOADNIL 2 0\n JMP 0 >in\nbody:\n SETGLOBAL 'last' 3\n"
            + "in:\n TFORCALL 0 1\n TFORLOOP 2 >body\n GLOBAL 4 'last'\n RETURN 2 4", "'b' nil 'b'");
        Play.due("main 7\n CLOSURE 0 f\n LOADK 1 #3\n LOADK 2 #4\n TFORCALL 0 3\n RETURN 3 4\n function f 2 0 3\n RETURN 0 3\n end", "3 4 nil");
        Play.due("main 4\n LOADNIL 0 3\n TFORCALL 0 1\n RETURN 0 1", "error 1");
    }

    private static void takesFurtherArguments() {
        Due.by("45 B - 1 of the arguments beyond the parameters to R(A) on (nil for missing ones); B 0: all are the OPEN row from A on.");
        String f = "function f 1 1 5\n VARARG 1 4\n RETURN 0 5\n end";
        Play.due("main 6\n CLOSURE 0 f\n LOADK 1 #1\n LOADK 2 #2\n LOADK 3 #3\n CALL 0 4 5\n RETURN 0 5\n" + f, "1 2 3 nil");
        Play.due("main 6\n CLOSURE 0 f\n CALL 0 1 5\n RETURN 0 5\n" + f, "nil nil nil nil");
        Play.due("main 6\n CLOSURE 0 f\n LOADK 1 #1\n LOADK 2 #2\n LOADK 3 #3\n LOADK 4 #4\n CALL 0 5 1\n CLOSURE 0 f\n LOADK 1 #1\n LOADK 2 #2\n CALL 0 3 5\n RETURN 0 5\n" + f, "1 2 nil nil");
        Play.due("main 6\n VARARG 0 0\n RETURN 0 0", "");
        Play.due("main 6\n LOADK 0 #1\n LOADK 1 #2\n LOADK 2 #3\n VARARG 1 2\n RETURN 0 4", "1 nil 3");
        Play.due("main 6\n LOADK 0 #1\n VARARG 0 1\n RETURN 0 2", "1");
        Play.due("main 6\n CLOSURE 0 f\n LOADK 1 #1\n LOADK 2 #2\n CALL 0 3 0\n RETURN 0 0\n function f 0 0 4\n VARARG 0 0\n RETURN 0 0\n end", "");
        Play.due("main 6\n CLOSURE 0 f\n LOADK 1 #1\n LOADK 2 #2\n LOADK 3 #3\n CALL 0 4 0\n RETURN 0 0\n function f 1 1 4\n LOADK 1 #9\n VARARG 2 0\n RETURN 0 0\n end", "1 9 2 3");
        Play.due("main 6\n CLOSURE 0 f\n LOADK 1 #1\n LOADK 2 #2\n CALL 0 3 2\n LEN 1 0\n GETTABLE 2 0 #5\n RETURN 1 3\n"
            + "function f 0 1 4\n NEWTABLE 0\n LOADK 1 #7\n VARARG 2 0\n SETLIST 0 0 3\n SETTABLE 0 #1 #0\n SETTABLE 0 #2 #0\n RETURN 0 2\n end", "5 2");
    }

    private static void sharesVariables() {
        Due.by("its upvalues, in order: the variable of a register of this FRAME (a new one, unless one that is not CLOSED is there), or an upvalue of this one; then the closure is made.");
        Play.due("main 4\n CLOSURE 0 f\n CLOSURE 1 f\n NEWTABLE 2\n RETURN 0 4\n function f 0 0 2 r2 u0 r3\n RETURN 0 1\n end", "function:62 function:63 table:64");
        String two = "function get 0 0 2 r0\n GETUPVAL 0 0\n RETURN 0 2\n end\n function add 0 0 2 r0\n GETUPVAL 0 0\n ADD 0 0 #1\n SETUPVAL 0 0\n RETURN 0 1\n end";
        Play.due("main 4\n LOADK 0 #1\n CLOSURE 1 get\n CLOSURE 2 add\n CALL 2 1 1\n CALL 1 1 2\n RETURN 0 2\n" + two, "2");
        Due.by("30 PC += sBx; A not 0: variables from R(A - 1) on are CLOSED before.");
        Play.due("main 4\n LOADK 0 #1\n CLOSURE 1 get\n CLOSURE 2 add\n JMP 1 0\n LOADK 0 #50\n CALL 2 1 1\n CALL 1 1 2\n RETURN 0 2\n" + two, "50");
        Play.due("main 4\n LOADK 0 #1\n CLOSURE 1 get\n CLOSURE 2 add\n JMP 1 0\n LOADK 0 #50\n CALL 2 1 1\n CALL 1 1 2\n RETURN 1 2\n" + two, "2");
        Play.due("main 4\n LOADK 0 #1\n CLOSURE 1 get\n CLOSURE 2 add\n JMP 2 0\n LOADK 0 #50\n CALL 2 1 1\n CALL 1 1 2\n RETURN 1 2\n" + two, "51");
        Play.due("main 5\n LOADK 0 #1\n CLOSURE 1 get\n JMP 1 0\n CLOSURE 2 add\n CALL 2 1 1\n CALL 1 1 2\n RETURN 0 2\n" + two, "2");
        Play.due("main 3\n CLOSURE 0 outer\n LOADK 1 #5\n CALL 0 2 2\n CALL 0 1 2\n RETURN 0 2\n"
            + "function outer 1 0 2\n CLOSURE 1 middle\n TAILCALL 1 1\n function middle 0 0 2 r0\n CLOSURE 0 inner\n RETURN 0 2\n"
            + "function inner 0 0 2 u0\n GETUPVAL 0 0\n RETURN 0 2\n end\n end\n end", "5");
    }
}
