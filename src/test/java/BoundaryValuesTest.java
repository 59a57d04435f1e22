/** VALUES and what is reckoned with them: for each sentence that names a boundary, what is due on both sides of it. */
public final class BoundaryValuesTest {
    private static final String LEAST = "#-9223372036854775808";
    private static final String MOST = "#9223372036854775807";

    public static void main(String[] args) {
        reckonsModulo();
        knowsTwoThatAreFalse();
        ordersStrings();
        ordersIntegers();
        roundsDownwards();
        dividesByNothing();
        shiftsBy64();
        shiftsTheOtherWay();
        shiftsZerosIn();
        makesNoNumbersOfStrings();
        makesStringsOfIntegersByJoiningAlone();
        wantsIntegers();
        measuresStringsAndTables();
        joinsStringsAndIntegers();
        joinsFromTheRight();
        tellsTheSame();
        tellsTheSameWhereverItIsFrom();
        tellsStringsApart();
        Due.end();
    }

    private static void reckoned(String operation, String x, String y, String want) {
        Play.due("main 3\n LOADK 0 " + x + "\n LOADK 1 " + y + "\n " + operation + " 2 0 1\n RETURN 2 2", want);
        Play.due("main 3\n " + operation + " 2 " + x + " " + y + "\n RETURN 2 2", want);
    }

    private static void ofOne(String operation, String x, String want) {
        Play.due("main 3\n LOADK 0 " + x + "\n " + operation + " 2 0\n RETURN 2 2", want);
    }

    private static void reckonsModulo() {
        Due.by("integers (64 bits, all reckoning modulo 2 to the 64th)");
        reckoned("ADD", MOST, "#1", "-9223372036854775808");
        reckoned("ADD", LEAST, "#-1", "9223372036854775807");
        reckoned("ADD", LEAST, LEAST, "0");
        reckoned("SUB", LEAST, "#1", "9223372036854775807");
        reckoned("SUB", "#0", LEAST, "-9223372036854775808");
        reckoned("MUL", MOST, "#2", "-2");
        reckoned("MUL", LEAST, "#-1", "-9223372036854775808");
        reckoned("MUL", "#4294967296", "#4294967296", "0");
        reckoned("IDIV", LEAST, "#-1", "-9223372036854775808");
        reckoned("MOD", LEAST, "#-1", "0");
        ofOne("UNM", LEAST, "-9223372036854775808");
        ofOne("UNM", MOST, "-9223372036854775807");
        ofOne("BNOT", LEAST, "9223372036854775807");
        ofOne("BNOT", "#0", "-1");
    }

    private static void knowsTwoThatAreFalse() {
        Due.by("nil and false are false, all else true");
        String[] values = {"nil", "false", "true", "#0", "''"};
        for (int i = 0; i < values.length; i++) {
            ofOne("NOT", values[i], i < 2 ? "true" : "false");
        }
        Play.due("main 4\n NEWTABLE 0\n NOT 0 0\n GLOBAL 1 'print'\n NOT 1 1\n GLOBAL 2 'running'\n CALL 2 1 2\n NOT 2 2\n RETURN 0 4", "false false false");
    }

    private static void compared(String operation, String x, String y, boolean want) {
        String program = "main 3\n LOADK 0 " + x + "\n LOADK 1 " + y + "\n " + operation + " %d 0 1\n JMP 0 1\n LOADBOOL 2 1 1\n LOADBOOL 2 0 0\n RETURN 2 2";
        Play.due(String.format(program, 1), want ? "false" : "true");
        Play.due(String.format(program, 0), want ? "true" : "false");
    }

    private static void ordersStrings() {
        Due.by("Order of strings: byte by byte (0 .. 255), a beginning first.");
        String[] inOrder = {"''", "'\0'", "'\0\0'", "'\u0001'", "'a'", "'aa'", "'ab'", "'b'", "'c'", "'\u007e'", "'\u007f'", "'\u0080'", "'\u0081'", "'\u00fe'", "'\u00ff'", "'\u00ff\0'"};
        for (int i = 0; i < inOrder.length; i++) {
            for (int k = 0; k < inOrder.length; k++) {
                compared("LT", inOrder[i], inOrder[k], i < k);
                compared("LE", inOrder[i], inOrder[k], i <= k);
            }
        }
    }

    private static void ordersIntegers() {
        Due.by("32 less 33 less or equal");
        String[] inOrder = {LEAST, "#-1", "#0", "#1", MOST};
        for (int i = 0; i < inOrder.length; i++) {
            for (int k = 0; k < inOrder.length; k++) {
                compared("LT", inOrder[i], inOrder[k], i < k);
                compared("LE", inOrder[i], inOrder[k], i <= k);
            }
        }
        Due.by("32, 33: both integers; both strings; else the first that has __lt, __le, called with both; none: ERROR 3.");
        for (String operation : new String[] {"LT", "LE"}) {
            for (String[] pair : new String[][] {{"#1", "'1'"}, {"'1'", "#1"}, {"nil", "nil"}, {"true", "true"}, {"#1", "nil"}}) {
                Play.due("main 3\n LOADK 0 " + pair[0] + "\n LOADK 1 " + pair[1] + "\n " + operation + " 0 0 1\n JMP 0 0\n RETURN 0 1", "error 3");
            }
        }
    }

    private static void roundsDownwards() {
        Due.by("16, 19: rounded downwards, the rest has the divisor's sign");
        reckoned("IDIV", "#7", "#2", "3");
        reckoned("IDIV", "#-7", "#2", "-4");
        reckoned("IDIV", "#7", "#-2", "-4");
        reckoned("IDIV", "#-7", "#-2", "3");
        reckoned("IDIV", "#-6", "#2", "-3");
        reckoned("IDIV", "#-1", MOST, "-1");
        reckoned("MOD", "#7", "#2", "1");
        reckoned("MOD", "#-7", "#2", "1");
        reckoned("MOD", "#7", "#-2", "-1");
        reckoned("MOD", "#-7", "#-2", "-1");
        reckoned("MOD", "#-6", "#2", "0");
        reckoned("MOD", "#6", "#-2", "0");
        reckoned("MOD", LEAST, MOST, "9223372036854775806");
        reckoned("MOD", MOST, LEAST, "-1");
    }

    private static void dividesByNothing() {
        Due.by("by 0: ERROR 5");
        for (String x : new String[] {"#1", "#0", LEAST}) {
            reckoned("MOD", x, "#0", "error 5");
            reckoned("IDIV", x, "#0", "error 5");
        }
        reckoned("MOD", "#0", "#1", "0");
        reckoned("IDIV", "#0", "#1", "0");
        reckoned("MOD", "'a'", "#0", "error 3");
        reckoned("IDIV", "nil", "#0", "error 3");
    }

    private static void shiftsBy64() {
        Due.by("Shifts: by 64 or more: 0");
        reckoned("SHL", "#1", "#63", "-9223372036854775808");
        reckoned("SHL", "#-1", "#64", "0");
        reckoned("SHL", "#-1", "#65", "0");
        reckoned("SHL", "#-1", MOST, "0");
        reckoned("SHR", LEAST, "#63", "1");
        reckoned("SHR", "#-1", "#64", "0");
        reckoned("SHR", "#-1", "#65", "0");
        reckoned("SHR", "#-1", MOST, "0");
        reckoned("SHL", "#5", "#0", "5");
        reckoned("SHR", "#-5", "#0", "-5");
    }

    private static void shiftsTheOtherWay() {
        Due.by("by less than 0: the other way");
        reckoned("SHL", "#8", "#-1", "4");
        reckoned("SHL", LEAST, "#-63", "1");
        reckoned("SHL", "#-1", "#-64", "0");
        reckoned("SHL", "#-1", LEAST, "0");
        reckoned("SHR", "#8", "#-1", "16");
        reckoned("SHR", "#1", "#-63", "-9223372036854775808");
        reckoned("SHR", "#-1", "#-64", "0");
        reckoned("SHR", "#-1", LEAST, "0");
    }

    private static void shiftsZerosIn() {
        Due.by("zeros come in on both sides");
        reckoned("SHR", "#-1", "#1", "9223372036854775807");
        reckoned("SHR", "#-1", "#60", "15");
        reckoned("SHL", "#-1", "#60", "-1152921504606846976");
        reckoned("SHL", "#-1", "#-1", "9223372036854775807");
    }

    private static void makesNoNumbersOfStrings() {
        Due.by("13 .. 26: integers (25, 26: the one); else the first of the two that has it");
        for (String operation : "ADD SUB MUL MOD IDIV BAND BOR BXOR SHL SHR".split(" ")) {
            reckoned(operation, "'10'", "#1", "error 3");
            reckoned(operation, "#1", "'10'", "error 3");
        }
        ofOne("UNM", "'10'", "error 3");
        ofOne("BNOT", "'10'", "error 3");
    }

    private static void makesStringsOfIntegersByJoiningAlone() {
        Due.by("Only 29 makes strings of integers (decimal).");
        Play.due("main 4\n LOADK 0 #1\n LOADK 1 #2\n CONCAT 2 0 1\n GLOBAL 3 'type'\n MOVE 1 2\n MOVE 2 3\n MOVE 3 1\n CALL 2 2 2\n RETURN 1 3", "'12' 'string'");
        Play.due("main 4\n LOADK 0 " + LEAST + "\n LOADK 1 ''\n CONCAT 2 0 1\n RETURN 2 2", "'-9223372036854775808'");
        Play.due("main 4\n LOADK 0 " + MOST + "\n LOADK 1 #0\n CONCAT 2 0 1\n RETURN 2 2", "'92233720368547758070'");
        Play.due("main 4\n LOADK 0 #-10\n LOADK 1 #-1\n CONCAT 2 0 1\n RETURN 2 2", "'-10-1'");
        Play.due("main 4\n GLOBAL 0 'len'\n LOADK 1 #10\n CALL 0 2 2\n RETURN 0 2", "error 3");
        Play.due("main 4\n GLOBAL 0 'sub'\n LOADK 1 #10\n CALL 0 2 2\n RETURN 0 2", "error 3");
    }

    private static void wantsIntegers() {
        Due.by("none: ERROR 3");
        for (String operation : "ADD SUB MUL MOD IDIV BAND BOR BXOR SHL SHR".split(" ")) {
            for (String wrong : new String[] {"nil", "true", "false"}) {
                reckoned(operation, wrong, "#1", "error 3");
                reckoned(operation, "#1", wrong, "error 3");
            }
            Play.due("main 3\n NEWTABLE 0\n " + operation + " 1 0 #1\n RETURN 1 2", "error 3");
        }
        ofOne("UNM", "nil", "error 3");
        ofOne("BNOT", "true", "error 3");
    }

    private static void measuresStringsAndTables() {
        Due.by("28: strings: bytes; tables: __len called with it, else LENGTH; else ERROR 2.");
        ofOne("LEN", "''", "0");
        ofOne("LEN", "'\0\0'", "2");
        for (String wrong : new String[] {"nil", "true", "#10"}) {
            ofOne("LEN", wrong, "error 2");
        }
        Play.due("main 3\n GLOBAL 0 'print'\n LEN 0 0\n RETURN 0 2", "error 2");
    }

    private static void joinsStringsAndIntegers() {
        Due.by("both strings or integers: joined; else the first that has __concat, called with both, its first result alone counting; none: ERROR 3");
        reckonedRow("'' ''", "''");
        reckonedRow("'a' ''", "'a'");
        reckonedRow("#1 'a'", "'1a'");
        reckonedRow("'a' #0", "'a0'");
        for (int length : new int[] {1_003, 1_004, 1_005, 1_023, 1_024, 1_025, 2_047, 2_048, 2_049, 4_096}) {
            String whole = "y".repeat(length);
            reckonedRow("'" + whole + "' " + LEAST, "'" + whole + "-9223372036854775808'");
            reckonedRow(LEAST + " '" + whole + "'", "'-9223372036854775808" + whole + "'");
            reckonedRow("'" + whole + "' '" + whole + "'", "'" + whole + whole + "'");
        }
        for (String wrong : new String[] {"nil", "true", "false"}) {
            reckonedRow("'a' " + wrong, "error 3");
            reckonedRow(wrong + " 'a'", "error 3");
            reckonedRow("'a' 'b' " + wrong, "error 3");
        }
    }

    private static void reckonedRow(String values, String want) {
        String[] words = values.split(" ");
        StringBuilder text = new StringBuilder("main 6\n");
        for (int i = 0; i < words.length; i++) {
            text.append("LOADK ").append(i).append(' ').append(words[i]).append('\n');
        }
        Play.due(text + "CONCAT 5 0 " + (words.length - 1) + "\n RETURN 5 2", want);
    }

    private static void joinsFromTheRight() {
        Due.by("29: from the right, two at a time");
        Play play = Play.of("main 5\n LOADK 0 #1\n LOADK 1 #2\n LOADK 2 #3\n LOADK 3 #4\n CONCAT 4 0 3\n RETURN 4 2");
        Due.is("the whole", play.finish(), "'1234'");
        Due.is("34, 234 and 1234 are made", play.counts(3, 4) + " " + play.x.count(8), "63 63 " + (335 + 9));
        Play error = Play.of("main 5\n LOADK 0 true\n LOADK 1 #2\n LOADK 2 #3\n CONCAT 4 0 2\n RETURN 4 2");
        Due.is("an error at the left", error.finish(), "error 3");
        Due.is("comes when the right is joined", error.x.count(4), 61);
        Play first = Play.of("main 5\n LOADK 0 #1\n LOADK 1 #2\n LOADK 2 true\n CONCAT 4 0 2\n RETURN 4 2");
        Due.is("an error at the right", first.finish(), "error 3");
        Due.is("comes first", first.x.count(4), 60);
    }

    private static void tellsTheSame() {
        Due.by("31: the same; or both tables, and the first that has __eq: called with both.");
        compared("EQ", "nil", "nil", true);
        compared("EQ", "nil", "false", false);
        compared("EQ", "false", "false", true);
        compared("EQ", "true", "false", false);
        compared("EQ", "#0", "false", false);
        compared("EQ", "#0", "''", false);
        compared("EQ", "#1", "'1'", false);
        compared("EQ", "''", "''", true);
        compared("EQ", LEAST, LEAST, true);
        compared("EQ", LEAST, MOST, false);
        Play.due("main 4\n GLOBAL 0 'print'\n GLOBAL 1 'print'\n EQ 0 0 1\n JMP 0 1\n LOADBOOL 2 1 1\n LOADBOOL 2 0 0\n RETURN 2 2", "true");
        Play.due("main 4\n GLOBAL 0 'print'\n GLOBAL 1 'type'\n EQ 0 0 1\n JMP 0 1\n LOADBOOL 2 1 1\n LOADBOOL 2 0 0\n RETURN 2 2", "false");
        Play.due("main 4\n CLOSURE 0 f\n CLOSURE 1 f\n EQ 0 0 1\n JMP 0 1\n LOADBOOL 2 1 1\n LOADBOOL 2 0 0\n RETURN 2 2\n function f 0 0 2\n RETURN 0 1\n end", "false");
    }

    /** R(0) is to be the same as a constant, also as a key. */
    private static void same(String lines, String constant) {
        Play.due("main 8\n " + lines + "\n EQ 0 0 " + constant + "\n JMP 0 1\n LOADBOOL 1 1 1\n LOADBOOL 1 0 0\n NEWTABLE 2\n SETTABLE 2 " + (constant.equals("nil") ? "#1" : constant) + " #5\n GETTABLE 2 2 0\n RETURN 1 3\n"
            + "function none 0 0 2\n RETURN 0 1\n end\n function fresh 0 0 2\n RETURN 1 2\n end\n function further 0 1 2\n VARARG 0 2\n RETURN 0 2\n end", constant.equals("nil") ? "true nil" : "true 5");
    }

    private static void tellsTheSameWhereverItIsFrom() {
        Due.by("31: the same; or both tables, and the first that has __eq: called with both.");
        String dirty = "GLOBAL 3 'type'\n LOADK 4 #7\n ";
        String[] nils = {"LOADK 0 nil", "LOADNIL 0 0", "CLOSURE 0 none\n CALL 0 1 2", "CLOSURE 0 fresh\n CALL 0 1 2", "CLOSURE 0 further\n CALL 0 1 2", "NEWTABLE 0\n GETTABLE 0 0 'x'", "NEWTABLE 0\n SETTABLE 0 'x' #9\n SETTABLE 0 'x' nil\n GETTABLE 0 0 'x'",
            "GLOBAL 0 'rawget'\n NEWTABLE 1\n CALL 0 2 2", "GLOBAL 0 'next'\n NEWTABLE 1\n CALL 0 2 2", "GLOBAL 0 'getmetatable'\n NEWTABLE 1\n CALL 0 2 2", "GLOBAL 0 'byte'\n LOADK 1 ''\n CALL 0 2 2", "GLOBAL 0 'print'\n CALL 0 1 2",
            "GLOBAL 0 'pcall'\n GLOBAL 1 'error'\n CALL 0 2 3\n MOVE 0 1", "GLOBAL 0 'nothing'", "GLOBAL 0 'select'\n LOADK 1 #1\n CALL 0 2 2", "GLOBAL 0 'wrap'\n GLOBAL 1 'print'\n CALL 0 2 2\n CALL 0 1 2"};
        for (String lines : nils) {
            same(dirty + lines, "nil");
        }
        String[] trues = {"LOADK 0 true", "LOADBOOL 0 1 0", "LOADBOOL 0 511 0", "LOADNIL 0 0\n NOT 0 0", "GLOBAL 0 'pcall'\n GLOBAL 1 'type'\n CALL 0 2 2", "GLOBAL 0 'rawequal'\n CALL 0 1 2", "GLOBAL 0 'running'\n CALL 0 1 3\n MOVE 0 1",
            "GLOBAL 0 'resume'\n GLOBAL 1 'create'\n GLOBAL 2 'type'\n CALL 1 2 2\n CALL 0 2 2"};
        for (String lines : trues) {
            same(dirty + lines, "true");
        }
        String[] falses = {"LOADK 0 false", "LOADBOOL 0 0 0", "LOADK 0 #0\n NOT 0 0", "GLOBAL 0 'pcall'\n CALL 0 1 2", "GLOBAL 0 'rawequal'\n LOADK 1 #1\n CALL 0 2 2", "GLOBAL 0 'resume'\n GLOBAL 1 'running'\n CALL 1 1 2\n CALL 0 2 2",
            "GLOBAL 0 'wrap'\n GLOBAL 1 'running'\n CALL 0 2 2\n CALL 0 1 3\n MOVE 0 1", "GLOBAL 0 'resume'\n GLOBAL 1 'create'\n GLOBAL 2 'error'\n CALL 1 2 2\n CALL 0 2 2"};
        for (String lines : falses) {
            same(dirty + lines, "false");
        }
    }

    /** Strings that a sum of bytes by powers of 31 would take for one another. */
    private static void tellsStringsApart() {
        Due.by("strings (rows of bytes)");
        compared("EQ", "'Aa'", "'BB'", false);
        compared("EQ", "'x'", "'\u00c3x'", false);
        Play.due("main 8\n LOADK 0 'A'\n LOADK 1 'a'\n CONCAT 2 0 1\n LOADK 0 'B'\n LOADK 1 'B'\n CONCAT 3 0 1\n RETURN 2 3", "'Aa' 'BB'");
        // of three that are alike one goes, and its place is taken by a table; all three are needed again
        String[] alike = {"LOADK 0 'AaA'\n LOADK 1 'a'\n CONCAT %d 0 1\n", "LOADK 0 'AaB'\n LOADK 1 'B'\n CONCAT %d 0 1\n", "LOADK 0 'BBA'\n LOADK 1 'a'\n CONCAT %d 0 1\n"};
        for (int gone = 0; gone < 3; gone++) {
            StringBuilder text = new StringBuilder("main 10\n ");
            for (int i = 0; i < 3; i++) {
                text.append(String.format(alike[i], 2 + i));
            }
            text.append("LOADNIL ").append(2 + gone).append(" 0\n GLOBAL 5 'collect'\n CALL 5 1 1\n NEWTABLE 5\n ");
            for (int i = 0; i < 3; i++) {
                text.append(String.format(alike[i], 6 + i));
            }
            Play play = Play.of(text + "RETURN 6 4");
            Due.is("those that are alike", play.finish(), "'AaAa' 'AaBB' 'BBAa'");
            Due.is("one of them is made again", play.x.count(4), 65 + 3 + 1 + 1);
        }
    }
}
