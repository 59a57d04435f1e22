/** Metatables and their events. */
public final class MetamethodsTest {
    /** R(0) a table with the metatable R(1), whose handler is f, for an event. */
    private static final String F = "\n function f 0 1 6\n VARARG 0 0\n RETURN 0 0\n end\n";

    public static void main(String[] args) {
        reads();
        writes();
        reckonsAndCompares();
        measuresAndJoins();
        calls();
        followsChainsUpToTheHundredth();
        asksTheFirstThatHasIt();
        countsOnlyFirstResults();
        Due.end();
    }

    /** A program where R(0) has the metatable R(1) with these entries. */
    private static String with(String entries, String body) {
        return "main 12\n NEWTABLE 0\n NEWTABLE 1\n" + entries + "\n GLOBAL 2 'setmetatable'\n MOVE 3 0\n MOVE 4 1\n CALL 2 3 1\n" + body;
    }

    private static void reads() {
        Due.by("v[k]: v is a table, and has a value there, or no __index: that; no table: ERROR 2. Else h, its __index: a function: called with v and k, its first result; else h[k], by the same rule;");
        Play.due(with("SETTABLE 1 'x' #5\n SETTABLE 1 '__index' 1", "GETTABLE 5 0 'x'\n GETTABLE 6 0 'y'\n RETURN 5 3"), "5 nil");
        Play.due(with("SETTABLE 1 'x' #5\n SETTABLE 1 '__index' 1", "SETTABLE 0 'x' #6\n GETTABLE 5 0 'x'\n RETURN 5 2"), "6");
        Play.due(with("CLOSURE 5 f\n SETTABLE 1 '__index' 5", "GETTABLE 5 0 'x'\n SELF 6 0 nil\n EQ 1 5 0\n JMP 0 1\n LOADNIL 5 0\n EQ 1 6 0\n JMP 0 1\n LOADNIL 5 0\n RETURN 5 2" + F), "table:61");
        Play.due(with("CLOSURE 5 f\n SETTABLE 1 '__index' 5", "GETTABLE 5 0 'k'\n RETURN 5 2\n function f 2 0 3\n RETURN 1 2\n end"), "'k'");
        Play.due(with("SETTABLE 1 '__index' #5", "GETTABLE 5 0 'k'\n RETURN 5 2"), "error 2");
        Play.due(with("SETTABLE 1 '__index' 'abc'", "GETTABLE 5 0 'k'\n RETURN 5 2"), "error 2");
        Play.due(with("SETTABLE 1 '__index' false", "GETTABLE 5 0 'k'\n RETURN 5 2"), "error 2");
        Play.due("main 12\n GETUPVAL 5 0\n NEWTABLE 1\n GLOBAL 6 'rawlen'\n SETTABLE 1 '__index' 6\n GLOBAL 2 'setmetatable'\n MOVE 3 5\n MOVE 4 1\n CALL 2 3 1\n GLOBAL 5 'nowhere'\n RETURN 5 2", "0");
    }

    private static void writes() {
        Due.by("v[k] = x: v is a table and has a value there, or no __newindex: written; no table: ERROR 2; h: a function: called with v, k, x; else h[k] = x; likewise.");
        Play.due(with("NEWTABLE 5\n SETTABLE 1 '__newindex' 5", "SETTABLE 0 'x' #4\n GETTABLE 6 0 'x'\n GETTABLE 7 5 'x'\n RETURN 6 3"), "nil 4");
        Play.due(with("NEWTABLE 5\n SETTABLE 1 '__newindex' 5\n SETTABLE 0 'x' #3", "SETTABLE 0 'x' #4\n GETTABLE 6 0 'x'\n GETTABLE 7 5 'x'\n RETURN 6 3"), "4 nil");
        Play.due(with("CLOSURE 5 f\n SETTABLE 1 '__newindex' 5", "SETTABLE 0 'x' #4\n GLOBAL 6 'key'\n GLOBAL 7 'value'\n GETTABLE 8 0 'x'\n RETURN 6 4\n"
            + "function f 3 0 4 u0\n SETGLOBAL 'key' 1\n SETGLOBAL 'value' 2\n RETURN 0 1\n end"), "'x' 4 nil");
        Play.due(with("GLOBAL 5 'rawset'\n SETTABLE 1 '__newindex' 5", "SETTABLE 0 'x' #4\n GETTABLE 6 0 'x'\n RETURN 6 2"), "4");
        Play.due(with("SETTABLE 1 '__newindex' #1", "SETTABLE 0 'x' #4\n RETURN 0 1"), "error 2");
        Play.due(with("CLOSURE 5 f\n SETTABLE 1 '__newindex' 5", "SETTABLE 0 nil #4\n GLOBAL 6 'value'\n RETURN 6 2\n function f 3 0 4 u0\n SETGLOBAL 'value' 2\n RETURN 0 1\n end"), "4");
    }

    private static void reckonsAndCompares() {
        Due.by("else the first of the two that has it (a table with __add, __sub, __mul, __mod, __idiv, __band, __bor, __bxor, __shl, __shr, __unm, __bnot): called with both (25, 26: twice the one); none: ERROR 3.");
        String[] operations = {"ADD", "SUB", "MUL", "MOD", "IDIV", "BAND", "BOR", "BXOR", "SHL", "SHR"};
        String[] events = {"add", "sub", "mul", "mod", "idiv", "band", "bor", "bxor", "shl", "shr"};
        for (int i = 0; i < operations.length; i++) {
            String entries = "CLOSURE 5 f\n SETTABLE 1 '__" + events[i] + "' 5";
            Play.due(with(entries, operations[i] + " 5 0 #7\n " + operations[i] + " 6 'b' 0\n RETURN 5 3\n function f 2 0 3\n EQ 1 0 'b'\n JMP 0 1\n RETURN 1 2\n RETURN 0 2\n end"), "7 'b'");
            Play.due(with("", operations[i] + " 5 0 #7\n RETURN 5 2"), "error 3");
        }
        Play.due(with("CLOSURE 5 f\n SETTABLE 1 '__unm' 5\n SETTABLE 1 '__bnot' 5", "UNM 5 0\n BNOT 6 0\n RETURN 5 3\n function f 0 1 4\n VARARG 0 3\n EQ 1 0 1\n JMP 0 1\n LOADNIL 0 0\n VARARG 2 0\n RETURN 0 0\n end"), "table:60 table:60");
        Due.by("31: the same; or both tables, and the first that has __eq: called with both. 32, 33: both integers; both strings; else the first that has __lt, __le, called with both; none: ERROR 3. Results of 31 .. 33 count as true or false.");
        String yes = "CLOSURE 5 f\n SETTABLE 1 '__eq' 5\n SETTABLE 1 '__lt' 5\n SETTABLE 1 '__le' 5";
        String f = "\n function f 2 0 3\n LOADK 0 #0\n RETURN 0 2\n end";
        Play.due(with(yes, "NEWTABLE 6\n EQ 1 6 0\n JMP 0 1\n RETURN 0 1\n LT 1 0 6\n JMP 0 1\n RETURN 0 1\n LE 1 #1 0\n JMP 0 1\n RETURN 0 1\n LOADK 5 #1\n RETURN 5 2" + f), "1");
        Play.due(with(yes, "EQ 0 0 #1\n JMP 0 1\n RETURN 0 1\n EQ 0 'a' 0\n JMP 0 1\n RETURN 0 1\n LOADK 5 #1\n RETURN 5 2" + f), "1");
        String no = "\n function f 2 0 3\n RETURN 0 1\n end";
        Play.due(with(yes, "NEWTABLE 6\n EQ 0 6 0\n JMP 0 1\n RETURN 0 1\n LT 0 0 'a'\n JMP 0 1\n RETURN 0 1\n LOADK 5 #1\n RETURN 5 2" + no), "1");
        Play.due(with(yes, "EQ 1 0 0\n JMP 0 1\n RETURN 0 1\n EQ 0 0 #1\n JMP 0 1\n RETURN 0 1\n LOADK 5 #1\n RETURN 5 2" + no), "1");
        String falsely = "\n function f 2 0 3\n LOADBOOL 0 0 0\n RETURN 0 2\n end";
        Play.due(with(yes, "NEWTABLE 6\n EQ 0 6 0\n JMP 0 1\n RETURN 0 1\n LT 0 0 'a'\n JMP 0 1\n RETURN 0 1\n LE 0 0 0\n JMP 0 1\n RETURN 0 1\n LOADK 5 #1\n RETURN 5 2" + falsely), "1");
        Play.due(with("CLOSURE 5 f\n SETTABLE 1 '__lt' 5", "LE 1 0 0\n JMP 0 0\n RETURN 0 1" + f), "error 3");
    }

    private static void measuresAndJoins() {
        Due.by("28: strings: bytes; tables: __len called with it, else LENGTH; else ERROR 2. 29: from the right, two at a time: both strings or integers: joined; else the first that has __concat, called with both, its first result alone counting; none: ERROR 3.");
        Play.due(with("GLOBAL 5 'type'\n SETTABLE 1 '__len' 5", "LEN 5 0\n RETURN 5 2"), "'table'");
        Play.due(with("CLOSURE 5 f\n SETTABLE 1 '__len' 5", "LEN 5 0\n RETURN 5 2\n function f 0 1 4 u0\n GLOBAL 0 'select'\n LOADK 1 '#'\n VARARG 2 0\n TAILCALL 0 0\n end"), "1");
        Play.due(with("SETTABLE 0 #1 #1", "LEN 5 0\n RETURN 5 2"), "1");
        String f = "\n function f 2 0 4\n LOADK 2 '('\n LOADK 3 ')'\n EQ 0 0 nil\n JMP 0 0\n RETURN 2 2\n end";
        Play.due(with("CLOSURE 5 f\n SETTABLE 1 '__concat' 5", "LOADK 5 'a'\n MOVE 6 0\n LOADK 7 'b'\n LOADK 8 'c'\n CONCAT 9 5 8\n RETURN 9 2" + f), "'a('");
        Play.due(with("CLOSURE 5 f\n SETTABLE 1 '__concat' 5", "LOADK 5 'a'\n MOVE 6 0\n LOADK 7 'b'\n LOADK 8 'c'\n CONCAT 9 5 8\n RETURN 9 2\n function f 2 0 4\n RETURN 1 2\n end"), "'abc'");
        Play.due(with("CLOSURE 5 f\n SETTABLE 1 '__concat' 5", "LOADK 5 'a'\n MOVE 6 0\n LOADK 7 'b'\n CONCAT 9 5 7\n RETURN 9 2\n function f 2 0 4\n LOADBOOL 0 1 0\n RETURN 0 2\n end"), "error 3");
        Play.due(with("", "LOADK 5 'a'\n MOVE 6 0\n CONCAT 9 5 6\n RETURN 9 2"), "error 3");
    }

    private static void calls() {
        Due.by("Called: a function; else a table's __call, with it before the arguments (again by the same rule; ERROR 4 at the 100th); else ERROR 1.");
        Play.due(with("CLOSURE 5 f\n SETTABLE 1 '__call' 5", "MOVE 5 0\n LOADK 6 #1\n LOADK 7 #2\n CALL 5 3 4\n RETURN 5 4" + F), "table:60 1 2");
        Play.due(with("SETTABLE 1 '__call' 1", "MOVE 5 0\n CALL 5 1 1\n RETURN 0 1"), "error 1");
        Play.due(with("", "MOVE 5 0\n CALL 5 1 1\n RETURN 0 1"), "error 1");
        Play.due("main 3\n LOADK 0 'print'\n CALL 0 1 1\n RETURN 0 1", "error 1");
        Play.due(with("GLOBAL 5 'rawget'\n SETTABLE 1 '__call' 5\n SETTABLE 0 'x' #8", "GLOBAL 5 'pcall'\n MOVE 6 0\n LOADK 7 'x'\n CALL 5 3 3\n RETURN 5 3"), "true 8");
        Play.due(with("CLOSURE 5 f\n SETTABLE 1 '__call' 5", "MOVE 5 0\n LOADK 6 #1\n TAILCALL 5 2\n" + F), "table:60 1");
    }

    /** A chain of tables, each the handler of the one before, ending with what is at the last. */
    private static String chain(String event, int length, String body) {
        return "main 12\n NEWTABLE 0\n MOVE 1 0\n LOADK 2 #1\n LOADK 3 #" + length + "\n LOADK 4 #1\n FORPREP 2 >next\nbody:\n NEWTABLE 6\n NEWTABLE 7\n SETTABLE 7 '" + event + "' 6\n"
            + "GLOBAL 8 'setmetatable'\n MOVE 9 1\n MOVE 10 7\n CALL 8 3 1\n MOVE 1 6\nnext:\n FORLOOP 2 >body\n" + body;
    }

    private static void followsChainsUpToTheHundredth() {
        Due.by("ERROR 4 at the 100th such.");
        Play.due(chain("__index", 99, "SETTABLE 1 'x' #3\n GETTABLE 5 0 'x'\n RETURN 5 2"), "3");
        Play.due(chain("__index", 99, "GETTABLE 5 0 'x'\n RETURN 5 2"), "nil");
        Play.due(chain("__index", 100, "SETTABLE 1 'x' #3\n GETTABLE 5 0 'x'\n RETURN 5 2"), "error 4");
        Play.due(chain("__newindex", 99, "SETTABLE 0 'x' #3\n GETTABLE 5 1 'x'\n RETURN 5 2"), "3");
        Play.due(chain("__newindex", 100, "SETTABLE 0 'x' #3\n RETURN 5 2"), "error 4");
        String last = "NEWTABLE 7\n GLOBAL 8 'select'\n SETTABLE 7 '__call' 8\n GLOBAL 8 'setmetatable'\n MOVE 9 1\n MOVE 10 7\n CALL 8 3 1\n";
        Play.due(chain("__call", 98, last + "MOVE 5 0\n LOADK 6 #1\n CALL 5 2 2\n RETURN 5 2"), "error 7");
        Play.due(chain("__call", 99, last + "MOVE 5 0\n LOADK 6 #1\n CALL 5 2 2\n RETURN 5 2"), "error 4");
        Play.due(chain("__call", 99, "MOVE 5 0\n CALL 5 1 2\n RETURN 5 2"), "error 1");
        Play.due(chain("__call", 100, "MOVE 5 0\n CALL 5 1 2\n RETURN 5 2"), "error 4");
        Play.due(with("SETTABLE 1 '__index' 0", "GETTABLE 5 0 'x'\n RETURN 5 2"), "error 4");
    }

    private static void asksTheFirstThatHasIt() {
        Due.by("else the first of the two that has it");
        String two = "main 12\n NEWTABLE 0\n NEWTABLE 1\n NEWTABLE 2\n NEWTABLE 3\n CLOSURE 4 f\n CLOSURE 5 g\n SETTABLE 2 '__add' 4\n SETTABLE 3 '__add' 5\n SETTABLE 3 '__sub' 5\n SETTABLE 2 '__lt' 4\n SETTABLE 3 '__lt' 5\n"
            + "GLOBAL 6 'setmetatable'\n MOVE 7 0\n MOVE 8 2\n CALL 6 3 1\n GLOBAL 6 'setmetatable'\n MOVE 7 1\n MOVE 8 3\n CALL 6 3 1\n";
        String both = "\n function f 0 0 2\n LOADK 0 'f'\n RETURN 0 2\n end\n function g 0 0 2\n LOADK 0 'g'\n RETURN 0 2\n end";
        Play.due(two + "ADD 6 0 1\n ADD 7 1 0\n SUB 8 0 1\n ADD 9 #1 1\n RETURN 6 5" + both, "'f' 'g' 'g' 'g'");
    }

    private static void countsOnlyFirstResults() {
        Due.by("called with v and k, its first result;");
        Play.due(with("CLOSURE 5 f\n SETTABLE 1 '__index' 5\n SETTABLE 1 '__add' 5", "LOADK 6 #1\n LOADK 7 #2\n GETTABLE 5 0 'x'\n ADD 6 0 0\n RETURN 5 4\n function f 0 0 4\n LOADK 0 #8\n LOADK 1 #9\n RETURN 0 3\n end"), "8 8 2");
        Play.due(with("CLOSURE 5 f\n SETTABLE 1 '__index' 5", "LOADK 5 #1\n GETTABLE 5 0 'x'\n RETURN 5 2\n function f 0 0 4\n RETURN 0 1\n end"), "nil");
    }
}
