/** What instructions do: for each sentence that names a boundary, what is due on both sides of it. */
public final class BoundaryInstructionsTest {
    private static final String TWO = "\n function two 0 0 3\n LOADK 0 #1\n LOADK 1 #2\n RETURN 0 3\n end\n function none 0 0 2\n RETURN 0 1\n end\n function all 0 1 2\n VARARG 0 0\n RETURN 0 0\n end";

    public static void main(String[] args) {
        loadsTruths();
        clearsRows();
        readsItselfBeforeItsField();
        joinsARow();
        jumpsFarAndBack();
        closesFromARegisterOn();
        sharesWhateverIsWritten();
        sharesEachOfSeveral();
        leavesRegistersWhenItWrites();
        testsAndSets();
        callsWithNoneOrMany();
        fillsMissingResults();
        usesTheOpenRowForArguments();
        leavesRegistersBelowAnOpenRow();
        callsInPlaceWhateverCSays();
        closesBeforeItCallsInPlace();
        givesBackNoneOrMany();
        loopsUpwards();
        loopsDownwards();
        loopsModulo();
        wantsIntegersToLoop();
        callsAnIterator();
        goesOnUntilNil();
        writesLists();
        writesOpenLists();
        wantsATableForAList();
        makesAVariableUnlessOneIsThere();
        takesFurtherArguments();
        beginsWithNil();
        Due.end();
    }

    private static void loadsTruths() {
        Due.by("3 R(A) = (B is not 0); C not 0: skip.");
        Play.due("main 3\n LOADBOOL 0 0 0\n LOADBOOL 1 1 0\n LOADBOOL 2 511 0\n RETURN 0 4", "false true true");
        for (int c : new int[] {0, 1, 2, 256, 511}) {
            Play.due("main 2\n LOADK 1 #7\n LOADBOOL 0 0 " + c + "\n LOADK 1 #8\n RETURN 1 2", c == 0 ? "8" : "7");
        }
    }

    private static void clearsRows() {
        Due.by("4 R(A) .. R(A + B) = nil.");
        String five = "main 5\n LOADK 0 #1\n LOADK 1 #2\n LOADK 2 #3\n LOADK 3 #4\n LOADK 4 #5\n ";
        Play.due(five + "LOADNIL 1 0\n RETURN 0 6", "1 nil 3 4 5");
        Play.due(five + "LOADNIL 1 2\n RETURN 0 6", "1 nil nil nil 5");
        Play.due(five + "LOADNIL 0 4\n RETURN 0 6", "nil nil nil nil nil");
        Play.due(five + "LOADNIL 4 0\n RETURN 0 6", "1 2 3 4 nil");
    }

    private static void readsItselfBeforeItsField() {
        Due.by("12 v = R(B), R(A + 1) = v, R(A) = v[RK(C)].");
        String table = "main 4\n NEWTABLE 0\n SETTABLE 0 'm' #6\n LOADK 2 'm'\n";
        Play.due(table + "SELF 0 0 2\n RETURN 0 3", "6 table:61");
        Play.due(table + "SELF 2 0 2\n RETURN 2 3", "6 table:61");
        Play.due(table + "MOVE 1 0\n SELF 0 1 'm'\n RETURN 0 3", "6 table:61");
    }

    private static void joinsARow() {
        Due.by("29 R(A) = R(B) .. R(B + 1) up to R(C), B below C.");
        Play.due("main 4\n LOADK 0 'a'\n LOADK 1 'b'\n LOADK 2 'c'\n LOADK 3 'd'\n CONCAT 0 1 2\n RETURN 0 5", "'bc' 'b' 'c' 'd'");
        StringBuilder text = new StringBuilder("main 250\n");
        for (int i = 0; i < 250; i++) {
            text.append("LOADK ").append(i).append(" 'q'\n");
        }
        Play all = Play.of(text + "CONCAT 249 0 249\n LEN 0 249\n RETURN 0 2");
        Due.is("all registers", all.finish(), "250");
        Due.is("each two make one", all.x.count(4), 61 + 249);
    }

    private static void jumpsFarAndBack() {
        Due.by("sBx = Bx - 131,071");
        Play.due("main 2\n RAW 2147467294\n LOADK 0 #1\n RETURN 0 2", "1");
        Play.due("main 2\n JMP 0 1\n LOADK 0 #1\n RETURN 0 2", "nil");
        Play.due("main 2\n JMP 0 2\nback:\n LOADK 0 #1\n RETURN 0 2\n JMP 0 -3", "1");
        String far = "main 2\n JMP 0 300\n" + "LOADK 0 #1\n".repeat(300) + "RETURN 0 2";
        Play.due(far, "nil");
    }

    private static void closesFromARegisterOn() {
        Due.by("A not 0: variables from R(A - 1) on are CLOSED before.");
        String program = "main 8\n LOADK 0 #1\n LOADK 1 #2\n LOADK 2 #3\n CLOSURE 3 f\n JMP %d 0\n LOADK 0 #10\n LOADK 1 #20\n LOADK 2 #30\n CALL 3 1 4\n RETURN 3 4\n"
            + "function f 0 0 3 r0 r1 r2\n GETUPVAL 0 0\n GETUPVAL 1 1\n GETUPVAL 2 2\n RETURN 0 4\n end";
        Play.due(String.format(program, 0), "10 20 30");
        Play.due(String.format(program, 1), "1 2 3");
        Play.due(String.format(program, 2), "10 2 3");
        Play.due(String.format(program, 3), "10 20 3");
        Play.due(String.format(program, 4), "10 20 30");
        // in whatever order the variables were made
        String[] orders = {"r0 r1 r2", "r0 r2 r1", "r1 r0 r2", "r1 r2 r0", "r2 r0 r1", "r2 r1 r0"};
        for (String order : orders) {
            String mixed = program.replace("r0 r1 r2", order);
            String[] parts = order.replace("r", "").split(" ");
            for (int from = 0; from <= 3; from++) {
                StringBuilder want = new StringBuilder();
                for (String part : parts) {
                    int register = Integer.parseInt(part);
                    want.append(want.length() > 0 ? " " : "").append(register >= from && from < 3 ? register + 1 : (register + 1) * 10);
                }
                Play.due(String.format(mixed, from == 3 ? 0 : from + 1), want.toString());
            }
        }
    }

    private static void sharesWhateverIsWritten() {
        Due.by("9 U(B) = R(A).");
        for (String value : new String[] {"nil", "false", "'a'", "#7"}) {
            String want = value.replace("#", "");
            Play.due("main 4\n LOADK 0 #1\n CLOSURE 1 f\n CALL 1 1 1\n RETURN 0 2\n function f 0 0 2 r0\n LOADK 0 " + value + "\n SETUPVAL 0 0\n RETURN 0 1\n end", want);
            Play.due("main 4\n LOADK 0 #1\n CLOSURE 1 f\n JMP 1 0\n CALL 1 1 2\n RETURN 0 3\n function f 0 0 2 r0\n LOADK 0 " + value + "\n SETUPVAL 0 0\n GETUPVAL 1 0\n RETURN 1 2\n end", "1 " + want);
        }
    }

    private static void sharesEachOfSeveral() {
        Due.by("5 R(A) = U(B).");
        String f = "\n function f 0 0 5 r0 r1 r2 r3\n GETUPVAL 0 3\n GETUPVAL 1 2\n GETUPVAL 2 1\n GETUPVAL 3 0\n RETURN 0 5\n end";
        Play.due("main 6\n LOADK 0 'a'\n LOADK 1 #5\n LOADK 2 true\n CLOSURE 4 f\n CALL 4 1 0\n RETURN 4 0" + f, "nil true 5 'a'");
        Due.by("9 U(B) = R(A).");
        String set = "\n function set 0 0 5 r0 r1 r2 r3\n LOADK 0 'z'\n LOADK 1 #9\n LOADK 2 false\n SETUPVAL 2 1\n SETUPVAL 1 3\n SETUPVAL 0 2\n RETURN 0 1\n end";
        Play.due("main 6\n LOADK 0 'a'\n LOADK 1 #5\n LOADK 2 true\n CLOSURE 4 set\n CALL 4 1 1\n RETURN 0 5" + set, "'a' false 'z' 9");
        Play.due("main 6\n LOADK 0 'a'\n LOADK 1 #5\n LOADK 2 true\n CLOSURE 4 set\n CLOSURE 5 f\n JMP 1 0\n CALL 4 1 1\n CALL 5 1 0\n RETURN 5 0" + set + f, "9 'z' false 'a'");
    }

    private static void leavesRegistersWhenItWrites() {
        Due.by("8 U(A)[RK(B)] = RK(C).");
        String asked = "main 8\n GETUPVAL 1 0\n NEWTABLE 2\n CLOSURE 3 f\n SETTABLE 2 '__newindex' 3\n GLOBAL 3 'setmetatable'\n MOVE 4 1\n MOVE 5 2\n CALL 3 3 1\n LOADK 0 'old'\n %s\n RETURN 0 3\n function f 0 0 2\n LOADK 0 'new'\n RETURN 0 2\n end";
        Play.due(String.format(asked, "SETGLOBAL 'y' #1"), "'old' table:0");
        Play.due(String.format(asked, "SETTABLE 1 'y' #1"), "'old' table:0");
    }

    private static void testsAndSets() {
        Due.by("34 if R(A) is true and C 0, or false and C 1: skip. 35 if R(B) is true and C 1, or false and C 0: R(A) = R(B), else skip.");
        String[] values = {"nil", "false", "true", "#0", "''"};
        for (int i = 0; i < values.length; i++) {
            for (int c = 0; c <= 1; c++) {
                boolean skips = i > 1 == (c == 0);
                Play.due("main 3\n LOADK 0 " + values[i] + "\n LOADK 1 #5\n TEST 0 " + c + "\n JMP 0 1\n LOADK 1 #6\n RETURN 1 2", skips ? "6" : "5");
                Play.due("main 3\n LOADK 0 " + (i > 1 ? "nil" : "true") + "\n LOADK 2 " + values[i] + "\n LOADK 1 #5\n TEST 2 " + c + "\n JMP 0 1\n LOADK 1 #6\n RETURN 1 2", skips ? "6" : "5");
                Play.due("main 3\n LOADK 0 " + values[i] + "\n LOADK 1 #5\n TESTSET 1 0 " + c + "\n JMP 0 1\n LOADK 1 #6\n RETURN 1 2",
                    skips ? "6" : values[i].replace("#", ""));
            }
        }
    }

    private static void callsWithNoneOrMany() {
        Due.by("36 R(A) is called with R(A + 1) .. R(A + B - 1)");
        String count = "main 5\n LOADK 1 '#'\n LOADK 2 #8\n LOADK 3 #9\n LOADK 4 #10\n GLOBAL 0 'select'\n CALL 0 %d 2\n RETURN 0 2";
        Play.due(String.format(count, 1), "error 7");
        Play.due(String.format(count, 2), "0");
        Play.due(String.format(count, 3), "1");
        Play.due(String.format(count, 5), "3");
    }

    private static void fillsMissingResults() {
        Due.by("C - 1 results to R(A) on (nil for missing ones)");
        String call = "main 6\n LOADK 2 #8\n LOADK 3 #9\n LOADK 4 #7\n CLOSURE 1 %s\n CALL 1 1 %d\n CLOSURE 0 all\n TAILCALL 0 5" + TWO;
        Play.due(String.format(call, "none", 2), "nil 8 9 7");
        Play.due(String.format(call, "none", 5), "nil nil nil nil");
        Play.due(String.format(call, "two", 2), "1 8 9 7");
        Play.due(String.format(call, "two", 3), "1 2 9 7");
        Play.due(String.format(call, "two", 4), "1 2 nil 7");
        Play.due("main 6\n LOADK 2 #8\n CLOSURE 1 two\n CALL 1 1 1\n RETURN 2 2" + TWO, "8");
    }

    private static void usesTheOpenRowForArguments() {
        Due.by("B 0: arguments to the OPEN row's end");
        Play.due("main 6\n CLOSURE 0 all\n CLOSURE 1 none\n CALL 1 1 0\n CALL 0 0 0\n RETURN 0 0" + TWO, "");
        Play.due("main 6\n CLOSURE 0 all\n CLOSURE 1 two\n CALL 1 1 0\n CALL 0 0 0\n RETURN 0 0" + TWO, "1 2");
        Play.due("main 6\n CLOSURE 0 all\n LOADK 1 #5\n LOADK 2 #6\n CLOSURE 3 none\n CALL 3 1 0\n CALL 0 0 0\n RETURN 0 0" + TWO, "5 6");
        Play.due("main 6\n CLOSURE 0 all\n LOADK 1 #5\n LOADK 2 #6\n CLOSURE 3 two\n CALL 3 1 0\n CALL 0 0 0\n RETURN 0 0" + TWO, "5 6 1 2");
        Play.due("main 6\n CLOSURE 0 all\n LOADK 1 #5\n CLOSURE 2 two\n CALL 2 1 0\n TAILCALL 0 0" + TWO, "5 1 2");
    }

    private static void leavesRegistersBelowAnOpenRow() {
        Due.by("C 0: all results are the OPEN row from A on (the registers themselves stay as they are)");
        Play play = Play.of("main 6\n NEWTABLE 0\n LOADK 2 #7\n CLOSURE 1 two\n CALL 1 1 0\n SETLIST 0 0 1\n MOVE 3 1\n RETURN 1 4" + TWO);
        Due.is("the function and the register behind it", play.finish(), "function:61 7 function:61");
    }

    private static void callsInPlaceWhateverCSays() {
        Due.by("(variables are CLOSED before; its C says nothing)");
        for (int c : new int[] {0, 1, 2, 511}) {
            long instruction = 37 | 0 << 6 | (long) c << 14 | 2L << 23;
            Play.due("main 3\n GLOBAL 0 'type'\n LOADK 1 #1\n RAW " + instruction, "'number'");
        }
        Due.by("37 likewise, in place of this FRAME: what it gives is given back");
        Play.due("main 3\n CLOSURE 0 two\n TAILCALL 0 1" + TWO, "1 2");
        Play.due("main 3\n CLOSURE 0 none\n TAILCALL 0 1" + TWO, "");
    }

    private static void closesBeforeItCallsInPlace() {
        Due.by("variables are CLOSED before");
        String f = "\n function f 0 0 3\n LOADK 0 #4\n CLOSURE 1 get\n %s\n function get 0 0 2 r0\n GETUPVAL 0 0\n RETURN 0 2\n end\n end";
        Play.due("main 4\n CLOSURE 0 f\n CALL 0 1 2\n RETURN 0 2" + String.format(f, "TAILCALL 1 1"), "4");
        Play.due("main 4\n CLOSURE 0 f\n CALL 0 1 2\n CLOSURE 1 f\n CALL 1 1 1\n CALL 0 1 2\n RETURN 0 2" + String.format(f, "RETURN 1 2"), "4");
    }

    private static void givesBackNoneOrMany() {
        Due.by("38 R(A) .. R(A + B - 2) are given back, B 0: to the OPEN row's end");
        String three = "main 3\n LOADK 0 #1\n LOADK 1 #2\n LOADK 2 #3\n ";
        Play.due(three + "RETURN 0 1", "");
        Play.due(three + "RETURN 2 2", "3");
        Play.due(three + "RETURN 0 4", "1 2 3");
        Play.due("main 4\n LOADK 0 #8\n CLOSURE 1 two\n CALL 1 1 0\n RETURN 0 0" + TWO, "8 1 2");
        Play.due("main 4\n LOADK 0 #8\n CLOSURE 1 none\n CALL 1 1 0\n RETURN 1 0" + TWO, "");
    }

    /** One 39: where it goes, its counter, and R(A + 3). */
    private static void loop(String now, String last, String by, String want) {
        Play.due("main 5\n LOADK 0 " + now + "\n LOADK 1 " + last + "\n LOADK 2 " + by + "\n LOADK 3 'old'\n FORLOOP 0 1\n LOADK 1 'out'\n RETURN 0 5", want);
    }

    private static void loopsUpwards() {
        Due.by("if R(A + 2) is above 0 and R(A) not above R(A + 1)");
        loop("#4", "#6", "#1", "5 6 1 5");
        loop("#5", "#6", "#1", "6 6 1 6");
        loop("#6", "#6", "#1", "7 'out' 1 'old'");
        loop("#4", "#6", "#3", "7 'out' 3 'old'");
    }

    private static void loopsDownwards() {
        Due.by("or not above 0 and R(A) not below R(A + 1): PC += sBx, R(A + 3) = R(A)");
        loop("#8", "#6", "#-1", "7 6 -1 7");
        loop("#7", "#6", "#-1", "6 6 -1 6");
        loop("#6", "#6", "#-1", "5 'out' -1 'old'");
        loop("#6", "#6", "#0", "6 6 0 6");
        loop("#7", "#6", "#0", "7 6 0 7");
        loop("#5", "#6", "#0", "5 'out' 0 'old'");
    }

    private static void loopsModulo() {
        Due.by("integers (64 bits, all reckoning modulo 2 to the 64th)");
        loop("#9223372036854775807", "#0", "#1", "-9223372036854775808 0 1 -9223372036854775808");
        loop("#9223372036854775806", "#9223372036854775807", "#1", "9223372036854775807 9223372036854775807 1 9223372036854775807");
        loop("#-9223372036854775808", "#0", "#-1", "9223372036854775807 0 -1 9223372036854775807");
        Play.due("main 5\n LOADK 0 #-9223372036854775808\n LOADK 1 #0\n LOADK 2 #1\n FORPREP 0 0\n RETURN 0 2", "9223372036854775807");
    }

    private static void wantsIntegersToLoop() {
        Due.by("ERROR 3 if one of R(A + 1), R(A + 2), R(A), in this order, is no integer (39 likewise: R(A + 2), R(A), R(A + 1))");
        for (String operation : new String[] {"FORPREP", "FORLOOP"}) {
            for (String wrong : new String[] {"nil", "'1'", "true"}) {
                for (int which = 0; which < 3; which++) {
                    Play.due("main 5\n LOADK 0 #1\n LOADK 1 #2\n LOADK 2 #1\n LOADK " + which + " " + wrong + "\n " + operation + " 0 0\n RETURN 0 1", "error 3");
                }
            }
            Play.due("main 5\n LOADK 0 #1\n LOADK 1 #2\n LOADK 2 #1\n LOADK 3 'a'\n " + operation + " 0 0\n RETURN 0 1", "");
            // what is no integer stays
            Play.due("main 5\n GLOBAL 0 'pcall'\n CLOSURE 1 f\n CALL 0 2 3\n GLOBAL 2 'get'\n CALL 2 1 2\n RETURN 0 4\n function f 0 0 6 u0\n LOADK 0 'x'\n LOADK 1 #2\n LOADK 2 #1\n CLOSURE 4 get\n SETGLOBAL 'get' 4\n "
                + operation + " 0 0\n RETURN 0 1\n function get 0 0 2 r0\n GETUPVAL 0 0\n RETURN 0 2\n end\n end", "false 3 'x'");
        }
    }

    private static void callsAnIterator() {
        Due.by("41 R(A) is called with R(A + 1), R(A + 2): C results, 1 or more, to R(A + 3) on.");
        String iterate = "main 7\n CLOSURE 0 %s\n LOADK 1 #4\n LOADK 2 #5\n LOADK 3 'a'\n LOADK 4 'b'\n LOADK 5 'c'\n TFORCALL 0 %d\n RETURN 1 6" + TWO;
        Play.due(String.format(iterate, "all", 1), "4 5 4 'b' 'c'");
        Play.due(String.format(iterate, "all", 2), "4 5 4 5 'c'");
        Play.due(String.format(iterate, "all", 3), "4 5 4 5 nil");
        Play.due(String.format(iterate, "none", 1), "4 5 nil 'b' 'c'");
    }

    private static void goesOnUntilNil() {
        Due.by("42 R(A + 1) not nil: R(A) = it, PC += sBx.");
        for (String value : new String[] {"false", "true", "#0", "''"}) {
            Play.due("main 3\n LOADK 0 'old'\n LOADK 1 " + value + "\n TFORLOOP 0 1\n LOADK 1 'out'\n RETURN 0 2", value.replace("#", ""));
        }
        Play.due("main 3\n LOADK 0 'old'\n TFORLOOP 0 1\n LOADK 1 'out'\n RETURN 0 3", "'old' 'out'");
    }

    private static void writesLists() {
        Due.by("43 for i = 1 .. B: R(A)[C + i - 1] = R(A + i), C 1 or more");
        String list = "main 6\n NEWTABLE 0\n LOADK 1 #7\n LOADK 2 #8\n SETLIST 0 %d %d\n LEN 1 0\n GETTABLE 2 0 #2\n GETTABLE 3 0 #511\n RETURN 1 4";
        Play.due(String.format(list, 1, 1), "1 nil nil");
        Play.due(String.format(list, 2, 1), "2 8 nil");
        Play.due(String.format(list, 2, 2), "0 7 nil");
        Play.due(String.format(list, 1, 511), "0 nil 7");
        Play.due(String.format(list, 2, 510), "0 nil 8");
    }

    private static void writesOpenLists() {
        Due.by("B 0: to the OPEN row's end, without metamethods");
        String list = "main 6\n NEWTABLE 0\n %s\n SETLIST 0 0 1\n LEN 1 0\n RETURN 1 2" + TWO;
        Play.due(String.format(list, "CLOSURE 1 none\n CALL 1 1 0"), "0");
        Play.due(String.format(list, "CLOSURE 1 two\n CALL 1 1 0"), "2");
        Play.due(String.format(list, "LOADK 1 #1\n LOADK 2 #1\n CLOSURE 3 two\n CALL 3 1 0"), "4");
        // what an open row was before is not written
        Play.due("main 6\n NEWTABLE 0\n CLOSURE 1 two\n CALL 1 1 0\n SETLIST 0 0 1\n NEWTABLE 0\n LOADK 1 #5\n SETLIST 0 1 1\n LEN 2 0\n NEWTABLE 0\n CLOSURE 1 none\n CALL 1 1 0\n SETLIST 0 0 1\n LEN 3 0\n RETURN 2 3" + TWO, "1 0");
        Play.due("main 6\n NEWTABLE 0\n NEWTABLE 1\n GLOBAL 2 'error'\n SETTABLE 1 '__newindex' 2\n GLOBAL 2 'setmetatable'\n MOVE 3 0\n MOVE 4 1\n CALL 2 3 1\n LOADK 1 #8\n SETLIST 0 1 1\n GETTABLE 1 0 #1\n RETURN 1 2", "8");
    }

    private static void wantsATableForAList() {
        Due.by("ERROR 2 if R(A) is no table");
        for (String wrong : new String[] {"nil", "#1", "'a'"}) {
            Play.due("main 3\n LOADK 0 " + wrong + "\n SETLIST 0 1 1\n RETURN 0 1", "error 2");
            Play.due("main 3\n LOADK 0 " + wrong + "\n VARARG 1 0\n SETLIST 0 0 1\n RETURN 0 1", "error 2");
        }
    }

    private static void makesAVariableUnlessOneIsThere() {
        Due.by("the variable of a register of this FRAME (a new one, unless one that is not CLOSED is there), or an upvalue of this one; then the closure is made");
        String f = "\n function f 0 0 2 r0 r0 u0\n RETURN 0 1\n end";
        Play.due("main 5\n CLOSURE 1 f\n RETURN 1 2" + f, "function:61");
        Play.due("main 5\n CLOSURE 1 f\n CLOSURE 2 f\n RETURN 1 3" + f, "function:61 function:62");
        Play.due("main 5\n CLOSURE 1 f\n JMP 1 0\n CLOSURE 2 f\n RETURN 1 3" + f, "function:61 function:63");
        Play.due("main 5\n CLOSURE 1 f\n JMP 2 0\n CLOSURE 2 f\n RETURN 1 3" + f, "function:61 function:62");
        // each upvalue of the one around, and of the one around that
        Play.due("main 5\n LOADK 0 #1\n LOADK 1 #2\n LOADK 2 #3\n CLOSURE 3 f\n CALL 3 1 0\n RETURN 3 0\n function f 0 0 3 r0 r1 r2\n CLOSURE 0 g\n TAILCALL 0 1\n function g 0 0 4 u2 u1 u0 u1\n GETUPVAL 0 0\n GETUPVAL 1 1\n GETUPVAL 2 2\n GETUPVAL 3 3\n RETURN 0 5\n end\n end", "3 2 1 2");
    }

    private static void takesFurtherArguments() {
        Due.by("45 B - 1 of the arguments beyond the parameters to R(A) on (nil for missing ones); B 0: all are the OPEN row from A on.");
        String f = "main 5\n CLOSURE 0 f\n LOADK 1 #1\n LOADK 2 #2\n LOADK 3 #3\n CALL 0 %d 0\n RETURN 0 0\n function f 1 %d 5\n LOADK 1 'a'\n LOADK 2 'b'\n LOADK 3 'c'\n VARARG 1 %d\n RETURN 1 %d\n end";
        Play.due(String.format(f, 4, 1, 1, 4), "'a' 'b' 'c'");
        Play.due(String.format(f, 4, 1, 2, 4), "2 'b' 'c'");
        Play.due(String.format(f, 4, 1, 3, 4), "2 3 'c'");
        Play.due(String.format(f, 4, 1, 4, 4), "2 3 nil");
        Play.due(String.format(f, 2, 1, 3, 4), "nil nil 'c'");
        Play.due(String.format(f, 1, 1, 3, 4), "nil nil 'c'");
        Play.due(String.format(f, 4, 1, 0, 0), "2 3");
        Play.due(String.format(f, 2, 1, 0, 0), "");
        Play.due(String.format(f, 4, 0, 3, 4), "nil nil 'c'");
        Play.due(String.format(f, 4, 0, 0, 0), "");
    }

    private static void beginsWithNil() {
        Due.by("A FRAME's M registers are nil at first, but for parameters.");
        String f = "\n function f 2 0 4\n RETURN 0 5\n end\n function dirty 0 0 4\n LOADK 0 #1\n LOADK 1 #2\n LOADK 2 #3\n LOADK 3 #4\n RETURN 0 1\n end";
        String call = "main 6\n CLOSURE 0 dirty\n CALL 0 1 1\n CLOSURE 0 f\n LOADK 1 #8\n LOADK 2 #9\n LOADK 3 #10\n CALL 0 %d 0\n RETURN 0 0" + f;
        Play.due(String.format(call, 1), "nil nil nil nil");
        Play.due(String.format(call, 2), "8 nil nil nil");
        Play.due(String.format(call, 3), "8 9 nil nil");
        Play.due(String.format(call, 4), "8 9 nil nil");
        Play.due("main 250\n RETURN 248 3", "nil nil");
        Play.due("main 6\n CLOSURE 0 dirty\n CALL 0 1 1\n CLOSURE 0 g\n CALL 0 1 2\n RETURN 0 2\n function g 2 0 4\n EQ 1 1 nil\n JMP 0 2\n LOADK 0 'not the same'\n RETURN 0 2\n EQ 1 3 nil\n JMP 0 1\n LOADK 0 'not the same'\n RETURN 0 2\n end" + f, "nil");
    }
}
