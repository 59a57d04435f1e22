/** METATABLES and EVENTS: for each sentence that names a boundary, what is due on both sides of it. */
public final class BoundaryMetatablesTest {
    public static void main(String[] args) {
        hasTablesAloneWithOne();
        looksForEventsWithoutMetamethods();
        readsWhatIsThereFirst();
        readsTablesAlone();
        asksItsHandlerToRead();
        readsUpToTheHundredth();
        writesWhatIsThereFirst();
        writesTablesAlone();
        writesUpToTheHundredth();
        asksTheFirstOfTwo();
        asksTwiceTheOne();
        asksForTheLength();
        asksWhoCanJoin();
        asksWhoIsEqual();
        asksWhoIsLess();
        countsResultsAsTruth();
        callsUpToTheHundredth();
        callsFunctionsAlone();
        Due.end();
    }

    /** R(0) has the metatable R(1) with these entries. */
    private static String with(String entries, String body) {
        return "main 12\n NEWTABLE 0\n NEWTABLE 1\n" + entries + "\n GLOBAL 2 'setmetatable'\n MOVE 3 0\n MOVE 4 1\n CALL 2 3 1\n" + body;
    }

    /** A chain from R(0) to R(1): each table is the handler of the one before. */
    private static String chain(String event, int length, String body) {
        return "main 12\n NEWTABLE 0\n MOVE 1 0\n LOADK 2 #1\n LOADK 3 #" + length + "\n LOADK 4 #1\n FORPREP 2 >next\nbody:\n NEWTABLE 6\n NEWTABLE 7\n SETTABLE 7 '" + event + "' 6\n"
            + "GLOBAL 8 'setmetatable'\n MOVE 9 1\n MOVE 10 7\n CALL 8 3 1\n MOVE 1 6\nnext:\n FORLOOP 2 >body\n" + body;
    }

    /** Gives R(1) a metatable with a built in function as the handler. */
    private static String last(String event, String function) {
        return "NEWTABLE 7\n GLOBAL 8 '" + function + "'\n SETTABLE 7 '" + event + "' 8\n GLOBAL 8 'setmetatable'\n MOVE 9 1\n MOVE 10 7\n CALL 8 3 1\n";
    }

    private static void hasTablesAloneWithOne() {
        Due.by("METATABLES: tables have one or none; strings and others none.");
        Play.due("main 4\n LOADK 0 'a'\n SELF 0 0 'len'\n RETURN 0 1", "error 2");
        for (String value : new String[] {"nil", "true", "#1", "'a'"}) {
            Play.due("main 4\n GLOBAL 0 'getmetatable'\n LOADK 1 " + value + "\n CALL 0 2 2\n RETURN 0 2", "nil");
            Play.due("main 4\n GLOBAL 0 'setmetatable'\n LOADK 1 " + value + "\n NEWTABLE 2\n CALL 0 3 2\n RETURN 0 2", "error 2");
        }
        Play.due("main 4\n GLOBAL 0 'getmetatable'\n GETUPVAL 1 0\n CALL 0 2 2\n RETURN 0 2", "nil");
        // the globals too can be one
        String globals = "main 8\n NEWTABLE 0\n GETUPVAL 1 0\n SETGLOBAL '__index' 1\n GLOBAL 2 'setmetatable'\n MOVE 3 0\n MOVE 4 1\n CALL 2 3 1\n ";
        Play.due(globals + "GETTABLE 2 0 'print'\n GLOBAL 3 'getmetatable'\n MOVE 4 0\n CALL 3 2 2\n RETURN 2 3", "function:0 table:0");
        Play.due(globals + "GLOBAL 3 'collect'\n CALL 3 1 2\n GETTABLE 2 0 'type'\n RETURN 2 3", "function:2 61");
    }

    private static void looksForEventsWithoutMetamethods() {
        Due.by("EVENTS: \"__index\" and so on; looked for in it without metamethods.");
        // the metatable's own metatable has all the events that the metatable itself lacks
        String inherited = "main 12\n NEWTABLE 0\n NEWTABLE 1\n NEWTABLE 2\n NEWTABLE 3\n GLOBAL 4 'type'\n SETTABLE 3 '__add' 4\n SETTABLE 3 '__index' 4\n SETTABLE 3 '__call' 4\n SETTABLE 2 '__index' 3\n"
            + "GLOBAL 4 'setmetatable'\n MOVE 5 1\n MOVE 6 2\n CALL 4 3 1\n GLOBAL 4 'setmetatable'\n MOVE 5 0\n MOVE 6 1\n CALL 4 3 1\n";
        Play.due(inherited + "GETTABLE 7 1 '__add'\n RETURN 7 2", "function:2");
        Play.due(inherited + "ADD 7 0 #1\n RETURN 7 2", "error 3");
        Play.due(inherited + "GETTABLE 7 0 'x'\n RETURN 7 2", "nil");
        Play.due(inherited + "CALL 0 1 1\n RETURN 7 2", "error 1");
    }

    private static void readsWhatIsThereFirst() {
        Due.by("v[k]: v is a table, and has a value there, or no __index: that");
        String index = "GLOBAL 5 'error'\n SETTABLE 1 '__index' 5\n SETTABLE 0 'x' false";
        Play.due(with(index, "GETTABLE 5 0 'x'\n RETURN 5 2"), "false");
        Play.due(with(index, "SETTABLE 0 'x' nil\n GETTABLE 5 0 'x'\n RETURN 5 2"), "error table:61");
        Play.due(with("", "GETTABLE 5 0 'x'\n RETURN 5 2"), "nil");
        Play.due(with("SETTABLE 1 '__index' nil", "GETTABLE 5 0 'x'\n RETURN 5 2"), "nil");
    }

    private static void readsTablesAlone() {
        Due.by("no table: ERROR 2. Else h, its __index: a function: called with v and k, its first result; else h[k], by the same rule");
        for (String value : new String[] {"nil", "false", "#1", "'a'"}) {
            Play.due("main 4\n LOADK 0 " + value + "\n GETTABLE 1 0 #1\n RETURN 1 2", "error 2");
            Play.due("main 4\n LOADK 0 " + value + "\n SELF 1 0 'x'\n RETURN 1 2", "error 2");
            Play.due("main 4\n LOADK 0 " + value + "\n SETUPVAL 0 0\n GLOBAL 1 'x'\n RETURN 1 2", "error 2");
        }
        for (String handler : new String[] {"false", "#1", "'a'"}) {
            Play.due(with("SETTABLE 1 '__index' " + handler, "GETTABLE 5 0 'x'\n RETURN 5 2"), "error 2");
        }
        Play.due("main 4\n GLOBAL 0 'print'\n GETTABLE 1 0 #1\n RETURN 1 2", "error 2");
    }

    private static void asksItsHandlerToRead() {
        Due.by("called with v and k, its first result");
        Play.due(with("CLOSURE 5 f\n SETTABLE 1 '__index' 5", "GETTABLE 5 0 'x'\n RETURN 5 2\n function f 0 1 5 u0\n GLOBAL 0 'select'\n LOADK 1 '#'\n VARARG 2 0\n TAILCALL 0 0\n end"), "2");
        Play.due(with("CLOSURE 5 f\n SETTABLE 1 '__index' 5", "LOADK 6 'old'\n GETTABLE 5 0 'x'\n RETURN 5 3\n function f 2 0 5\n RETURN 0 3\n end"), "table:62 'old'");
        Play.due(with("CLOSURE 5 f\n SETTABLE 1 '__index' 5", "GETTABLE 5 0 'x'\n RETURN 5 2\n function f 2 0 5\n RETURN 0 1\n end"), "nil");
        Play.due(with("CLOSURE 5 f\n SETTABLE 1 '__index' 5", "GETTABLE 5 0 nil\n RETURN 5 2\n function f 2 0 5\n LOADK 0 #4\n RETURN 0 2\n end"), "4");
        Play.due(chain("__index", 2, last("__index", "rawlen") + "SETTABLE 1 #1 #1\n GETTABLE 5 0 'x'\n RETURN 5 2"), "1");
    }

    private static void readsUpToTheHundredth() {
        Due.by("ERROR 4 at the 100th such");
        Play.due(chain("__index", 99, "SETTABLE 1 'x' #3\n GETTABLE 5 0 'x'\n GETTABLE 6 0 'y'\n RETURN 5 3"), "3 nil");
        Play.due(chain("__index", 100, "SETTABLE 1 'x' #3\n GETTABLE 5 0 'x'\n RETURN 5 2"), "error 4");
        Play.due(chain("__index", 100, "SETTABLE 1 'x' #3\n GETTABLE 5 0 '__none'\n RETURN 5 2"), "error 4");
        Play.due(chain("__index", 99, last("__index", "rawlen") + "GETTABLE 5 0 'x'\n RETURN 5 2"), "0");
        Play.due(with("SETTABLE 1 '__index' 0", "GETTABLE 5 0 'x'\n RETURN 5 2"), "error 4");
    }

    private static void writesWhatIsThereFirst() {
        Due.by("v[k] = x: v is a table and has a value there, or no __newindex: written");
        String newIndex = "GLOBAL 5 'error'\n SETTABLE 1 '__newindex' 5\n SETTABLE 0 'x' false";
        Play.due(with(newIndex, "SETTABLE 0 'x' #5\n GETTABLE 5 0 'x'\n RETURN 5 2"), "5");
        Play.due(with(newIndex, "SETTABLE 0 'x' nil\n SETTABLE 0 'x' #5\n RETURN 5 2"), "error table:61");
        Play.due(with(newIndex, "SETTABLE 0 'y' nil\n RETURN 5 2"), "error table:62");
        Play.due(with("", "SETTABLE 0 nil #5\n RETURN 5 2"), "error 6");
        Play.due(with("GLOBAL 5 'rawlen'\n SETTABLE 1 '__newindex' 5", "SETTABLE 0 nil #5\n LEN 5 0\n RETURN 5 2"), "0");
    }

    private static void writesTablesAlone() {
        Due.by("no table: ERROR 2; h: a function: called with v, k, x; else h[k] = x; likewise");
        for (String value : new String[] {"nil", "false", "#1", "'a'"}) {
            Play.due("main 4\n LOADK 0 " + value + "\n SETTABLE 0 #1 #1\n RETURN 1 2", "error 2");
            Play.due("main 4\n LOADK 0 " + value + "\n SETUPVAL 0 0\n SETGLOBAL 'x' #1\n RETURN 1 2", "error 2");
        }
        for (String handler : new String[] {"false", "#1", "'a'"}) {
            Play.due(with("SETTABLE 1 '__newindex' " + handler, "SETTABLE 0 'x' #1\n RETURN 5 2"), "error 2");
        }
        Play.due(with("CLOSURE 5 f\n SETTABLE 1 '__newindex' 5", "SETTABLE 0 'x' #7\n GLOBAL 5 'got'\n RETURN 5 2\n function f 0 1 6 u0\n GLOBAL 0 'select'\n LOADK 1 '#'\n VARARG 2 0\n CALL 0 0 2\n SETGLOBAL 'got' 0\n RETURN 0 2\n end"), "3");
    }

    private static void writesUpToTheHundredth() {
        Due.by("likewise");
        Play.due(chain("__newindex", 99, "SETTABLE 0 'x' #3\n GETTABLE 5 1 'x'\n GETTABLE 6 0 'x'\n RETURN 5 3"), "3 nil");
        Play.due(chain("__newindex", 100, "SETTABLE 0 'x' #3\n RETURN 5 2"), "error 4");
        Play.due(chain("__newindex", 99, last("__newindex", "rawset") + "SETTABLE 0 'x' #3\n GETTABLE 5 1 'x'\n RETURN 5 2"), "3");
        Play.due(with("SETTABLE 1 '__newindex' 0", "SETTABLE 0 'x' #1\n RETURN 5 2"), "error 4");
    }

    private static void asksTheFirstOfTwo() {
        Due.by("else the first of the two that has it");
        String two = "main 12\n NEWTABLE 0\n NEWTABLE 1\n NEWTABLE 2\n NEWTABLE 3\n CLOSURE 4 f\n CLOSURE 5 g\n %s\n GLOBAL 6 'setmetatable'\n MOVE 7 0\n MOVE 8 2\n CALL 6 3 1\n GLOBAL 6 'setmetatable'\n MOVE 7 1\n MOVE 8 3\n CALL 6 3 1\n"
            + "%s 6 0 1\n RETURN 6 2\n function f 0 0 2\n LOADK 0 'f'\n RETURN 0 2\n end\n function g 0 0 2\n LOADK 0 'g'\n RETURN 0 2\n end";
        String[] operations = {"ADD", "SUB", "MUL", "MOD", "IDIV", "BAND", "BOR", "BXOR", "SHL", "SHR", "CONCAT"};
        for (String operation : operations) {
            String event = "'__" + operation.toLowerCase() + "'";
            Play.due(String.format(two, "SETTABLE 2 " + event + " 4\n SETTABLE 3 " + event + " 5", operation), "'f'");
            Play.due(String.format(two, "SETTABLE 3 " + event + " 5", operation), "'g'");
            Play.due(String.format(two, "SETTABLE 2 " + event + " 4", operation), "'f'");
            Play.due(String.format(two, "", operation), "error 3");
        }
    }

    private static void asksTwiceTheOne() {
        Due.by("called with both (25, 26: twice the one)");
        String f = "\n function f 0 1 6 u0\n GLOBAL 0 'rawequal'\n VARARG 1 0\n CALL 0 0 2\n GLOBAL 1 'select'\n LOADK 2 '#'\n VARARG 3 0\n CALL 1 0 2\n NOT 0 0\n EQ 1 1 #2\n JMP 0 1\n LOADNIL 0 0\n RETURN 0 2\n end";
        Play.due(with("CLOSURE 5 f\n SETTABLE 1 '__unm' 5\n SETTABLE 1 '__bnot' 5", "UNM 5 0\n BNOT 6 0\n RETURN 5 3" + f), "false false");
        Play.due(with("CLOSURE 5 f\n SETTABLE 1 '__unm' 5\n SETTABLE 1 '__bnot' 5", "MOVE 7 0\n NEWTABLE 0\n UNM 5 7\n BNOT 6 7\n RETURN 5 3" + f), "false false");
        Play.due(with("CLOSURE 5 f\n SETTABLE 1 '__unm' 5\n SETTABLE 1 '__bnot' 5", "MOVE 7 0\n LOADK 0 #3\n UNM 5 7\n BNOT 6 7\n RETURN 5 3" + f), "false false");
        Play.due(with("", "LOADK 7 #6\n UNM 5 7\n BNOT 6 7\n RETURN 5 3"), "-6 -7");
    }

    private static void asksForTheLength() {
        Due.by("tables: __len called with it, else LENGTH");
        Play.due(with("CLOSURE 5 f\n SETTABLE 1 '__len' 5", "LEN 5 0\n RETURN 5 2\n function f 0 1 5 u0\n GLOBAL 0 'select'\n LOADK 1 '#'\n VARARG 2 0\n TAILCALL 0 0\n end"), "1");
        Play.due(with("CLOSURE 5 f\n SETTABLE 1 '__len' 5", "LEN 5 0\n RETURN 5 2\n function f 1 0 5\n RETURN 0 1\n end"), "nil");
        Play.due(with("SETTABLE 0 #1 #1", "LEN 5 0\n RETURN 5 2"), "1");
        Play.due(with("SETTABLE 1 '__len' #1", "LEN 5 0\n RETURN 5 2"), "error 1");
    }

    private static void asksWhoCanJoin() {
        Due.by("called with both, its first result alone counting");
        String f = "\n function f 2 0 5\n LOADK 2 'r'\n LOADK 3 's'\n RETURN 2 3\n end";
        Play.due(with("CLOSURE 5 f\n SETTABLE 1 '__concat' 5", "LOADK 6 'a'\n MOVE 7 0\n LOADK 8 'b'\n CONCAT 5 6 8\n RETURN 5 2" + f), "'ar'");
        Play.due(with("CLOSURE 5 f\n SETTABLE 1 '__concat' 5", "LOADK 6 'a'\n LOADK 7 'b'\n MOVE 8 0\n CONCAT 5 6 8\n RETURN 5 2" + f), "'ar'");
        Play.due(with("CLOSURE 5 f\n SETTABLE 1 '__concat' 5", "LOADK 6 #1\n MOVE 7 0\n CONCAT 5 6 7\n RETURN 5 2\n function f 2 0 5\n RETURN 0 1\n end"), "nil");
        Play.due(with("CLOSURE 5 f\n SETTABLE 1 '__concat' 5", "LOADK 6 'a'\n LOADK 7 #1\n MOVE 8 0\n CONCAT 5 6 8\n RETURN 5 2\n function f 2 0 5\n RETURN 0 1\n end"), "error 3");
    }

    private static void asksWhoIsEqual() {
        Due.by("31: the same; or both tables, and the first that has __eq: called with both.");
        String eq = "GLOBAL 5 'error'\n SETTABLE 1 '__eq' 5";
        String is = " \n JMP 0 1\n LOADBOOL 5 1 1\n LOADBOOL 5 0 0\n RETURN 5 2";
        Play.due(with(eq, "EQ 0 0 0" + is), "true");
        Play.due(with(eq, "EQ 0 0 #1" + is), "false");
        Play.due(with(eq, "EQ 0 'a' 0" + is), "false");
        Play.due(with(eq, "GLOBAL 6 'print'\n EQ 0 0 6" + is), "false");
        Play.due(with(eq, "NEWTABLE 6\n EQ 0 0 6" + is), "error table:60");
        Play.due(with(eq, "NEWTABLE 6\n EQ 0 6 0" + is), "error table:62");
        Play.due(with("", "NEWTABLE 6\n EQ 0 0 6" + is), "false");
    }

    private static void asksWhoIsLess() {
        Due.by("else the first that has __lt, __le, called with both; none: ERROR 3");
        Play.due(with("GLOBAL 5 'rawequal'\n SETTABLE 1 '__lt' 5", "LE 0 0 0\n JMP 0 0\n RETURN 0 1"), "error 3");
        Play.due(with("GLOBAL 5 'rawequal'\n SETTABLE 1 '__le' 5", "LT 0 0 0\n JMP 0 0\n RETURN 0 1"), "error 3");
        Play.due(with("GLOBAL 5 'error'\n SETTABLE 1 '__lt' 5", "LT 0 #1 0\n JMP 0 0\n RETURN 0 1"), "error 1");
        Play.due(with("GLOBAL 5 'error'\n SETTABLE 1 '__le' 5", "LE 0 0 'x'\n JMP 0 0\n RETURN 0 1"), "error table:61");
    }

    private static void countsResultsAsTruth() {
        Due.by("Results of 31 .. 33 count as true or false.");
        String[] results = {"RETURN 0 1", "LOADNIL 0 0\n RETURN 0 2", "LOADBOOL 0 0 0\n RETURN 0 2", "LOADK 0 #0\n RETURN 0 2", "LOADK 0 ''\n RETURN 0 2", "LOADNIL 0 0\n LOADBOOL 1 1 0\n RETURN 0 3", "LOADBOOL 0 1 0\n RETURN 0 2"};
        for (String operation : new String[] {"EQ", "LT", "LE"}) {
            for (int i = 0; i < results.length; i++) {
                Play.due(with("CLOSURE 5 f\n SETTABLE 1 '__" + operation.toLowerCase() + "' 5", "NEWTABLE 6\n " + operation + " 0 0 6\n JMP 0 1\n LOADBOOL 5 1 1\n LOADBOOL 5 0 0\n RETURN 5 2\n function f 0 0 3\n " + results[i] + "\n end"),
                    i == 3 || i == 4 || i == 6 ? "true" : "false");
            }
        }
    }

    private static void callsUpToTheHundredth() {
        Due.by("else a table's __call, with it before the arguments (again by the same rule; ERROR 4 at the 100th); else ERROR 1");
        String count = "LOADK 7 '#'\n MOVE 6 0\n CALL 6 %d 0\n RETURN 6 0";
        Play.due(chain("__call", 98, last("__call", "rawequal") + String.format(count, 1)), "false");
        Play.due(chain("__call", 99, last("__call", "rawequal") + String.format(count, 1)), "error 4");
        Play.due(chain("__call", 99, String.format(count, 1)), "error 1");
        Play.due(chain("__call", 100, String.format(count, 1)), "error 4");
        Play.due(with("SETTABLE 1 '__call' 0", "CALL 0 1 1\n RETURN 0 1"), "error 4");
        Play order = Play.of(chain("__call", 2, "NEWTABLE 7\n CLOSURE 8 f\n SETTABLE 7 '__call' 8\n GLOBAL 8 'setmetatable'\n MOVE 9 1\n MOVE 10 7\n CALL 8 3 1\n LOADK 7 #5\n MOVE 6 0\n CALL 6 2 0\n RETURN 6 0\n function f 0 1 3\n VARARG 0 0\n RETURN 0 0\n end"));
        Due.is("the last table is the first argument, then those before it", order.finish(), "table:63 table:61 table:60 5");
    }

    private static void callsFunctionsAlone() {
        Due.by("else ERROR 1");
        for (String value : new String[] {"nil", "true", "#1", "'print'"}) {
            Play.due("main 4\n LOADK 0 " + value + "\n CALL 0 1 1\n RETURN 0 1", "error 1");
            Play.due("main 4\n LOADK 0 " + value + "\n TAILCALL 0 1", "error 1");
            Play.due("main 4\n LOADK 0 " + value + "\n TFORCALL 0 1\n RETURN 0 1", "error 1");
            Play.due(with("SETTABLE 1 '__call' " + value, "CALL 0 1 1\n RETURN 0 1"), "error 1");
        }
        Play.due("main 4\n GLOBAL 0 'running'\n CALL 0 1 2\n CALL 0 1 1\n RETURN 0 1", "error 1");
    }
}
