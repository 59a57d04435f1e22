/** BUILT IN functions: for each sentence that names a boundary, what is due on both sides of it. */
public final class BoundaryBuiltInsTest {
    private static final String LEAST = "#-9223372036854775808";
    private static final String MOST = "#9223372036854775807";

    public static void main(String[] args) {
        takesMissingArgumentsAsNil();
        printsNothingOrMuch();
        printsWithoutMakingOrAsking();
        makesTexts();
        asksForATextThatIsAString();
        namesTypes();
        raisesItsArgument();
        callsProtected();
        setsMetatables();
        keepsProtectedMetatables();
        givesMetatables();
        readsAndWritesRaw();
        measuresRaw();
        comparesRaw();
        findsTheNext();
        selectsFromTheFirstOn();
        selectsByNumbersAboveNothing();
        cutsLikeLua();
        tellsOneByte();
        makesStringsOfBytes();
        wantsStrings();
        Due.end();
    }

    /** A call of a built in function with constants and new tables: all its results. */
    private static void called(String call, String want) {
        String[] words = call.split(" ");
        StringBuilder text = new StringBuilder("main 10\n GLOBAL 0 '" + words[0] + "'\n");
        for (int i = 1; i < words.length; i++) {
            text.append(words[i].equals("{}") ? "NEWTABLE " + i : "LOADK " + i + " " + words[i]).append('\n');
        }
        Play.due(text + "CALL 0 " + words.length + " 0\n RETURN 0 0", want);
    }

    /** R(0) has the metatable R(1) with these entries. */
    private static String with(String entries, String body) {
        return "main 12\n NEWTABLE 0\n NEWTABLE 1\n" + entries + "\n GLOBAL 2 'setmetatable'\n MOVE 3 0\n MOVE 4 1\n CALL 2 3 1\n" + body;
    }

    private static void takesMissingArgumentsAsNil() {
        Due.by("BUILT IN (missing arguments are nil)");
        String[][] cases = {{"print", ""}, {"tostring", "'nil'"}, {"type", "'nil'"}, {"error", "error nil"}, {"pcall", "false 1"}, {"setmetatable", "error 2"}, {"setmetatable {}", "table:60"},
            {"getmetatable", "nil"}, {"rawget", "error 2"}, {"rawget {}", "nil"}, {"rawset", "error 2"}, {"rawset {}", "error 6"}, {"rawset {} #1", "table:60"}, {"rawlen", "error 2"},
            {"rawequal", "true"}, {"rawequal #1", "false"}, {"next", "error 2"}, {"next {}", "nil"}, {"select", "error 7"}, {"sub", "error 3"}, {"sub 'ab'", "'ab'"}, {"byte", "error 3"},
            {"byte 'ab'", "97"}, {"char", "''"}, {"len", "error 3"}, {"create", "error 1"}, {"resume", "error 2"}, {"status", "error 2"}, {"wrap", "error 1"}, {"yield", "error 9"},
            {"running", "coroutine:59 true"}, {"collect", "60"}};
        for (String[] one : cases) {
            called(one[0], one[1]);
        }
    }

    private static void printed(String arguments, String want) {
        String[] words = arguments.isEmpty() ? new String[0] : arguments.split(" ");
        StringBuilder text = new StringBuilder("main 10\n GLOBAL 0 'print'\n");
        for (int i = 0; i < words.length; i++) {
            text.append("LOADK ").append(i + 1).append(' ').append(words[i]).append('\n');
        }
        Play play = Play.of(text + "CALL 0 " + (words.length + 1) + " 0\n RETURN 0 0");
        Due.is("results of print", play.finish(), "");
        Due.is("printed", play.printed(), want);
    }

    private static void printsNothingOrMuch() {
        Due.by("a tab between, a line feed behind, to the OUTPUT");
        printed("", "\n");
        printed("''", "\n");
        printed("nil", "nil\n");
        printed("'' ''", "\t\n");
        printed("true false #0 " + LEAST + " 'a\u00ff'", "true\tfalse\t0\t-9223372036854775808\ta\u00ff\n");
    }

    private static void printsWithoutMakingOrAsking() {
        Due.by("(but nothing is made, no metamethod asked for)");
        Play play = Play.of(with("GLOBAL 5 'error'\n SETTABLE 1 '__tostring' 5", "GLOBAL 5 'print'\n MOVE 6 0\n LOADK 7 #123456\n CALL 5 3 1\n RETURN 0 1"));
        Due.is("no error", play.finish(), "");
        Due.is("printed", play.printed(), "table: 60\t123456\n");
        Due.is("two tables are made, and nothing else", play.x.count(4), 62);
    }

    private static void makesTexts() {
        Due.by("nil, true, false, integers decimal, strings as they are");
        called("tostring nil", "'nil'");
        called("tostring true", "'true'");
        called("tostring false", "'false'");
        called("tostring #0", "'0'");
        called("tostring #-1", "'-1'");
        called("tostring " + LEAST, "'-9223372036854775808'");
        called("tostring " + MOST, "'9223372036854775807'");
        called("tostring ''", "''");
        called("tostring 'a' 'b'", "'a'");
        Due.by("others \"table: n\", \"function: n\", \"thread: n\", n the OBJECT's number (built in ones \"builtin: n\" by their place in this list, from 0)");
        called("tostring {}", "'table: 60'");
        Play.due("main 4\n GLOBAL 0 'tostring'\n GETUPVAL 1 0\n CALL 0 2 2\n RETURN 0 2", "'table: 0'");
        Play.due("main 4\n GLOBAL 0 'tostring'\n GLOBAL 1 'print'\n CALL 0 2 2\n RETURN 0 2", "'builtin: 0'");
        Play.due("main 4\n GLOBAL 0 'tostring'\n GLOBAL 1 'collect'\n CALL 0 2 2\n RETURN 0 2", "'builtin: 23'");
        Play.due("main 4\n GLOBAL 0 'tostring'\n GLOBAL 1 'wrap'\n GLOBAL 2 'print'\n CALL 1 2 2\n CALL 0 2 2\n RETURN 0 2", "'function: 61'");
        Play.due("main 4\n GLOBAL 0 'tostring'\n GLOBAL 1 'running'\n CALL 1 1 2\n CALL 0 2 2\n RETURN 0 2", "'thread: 59'");
        Play.due(with("", "GLOBAL 5 'tostring'\n MOVE 6 0\n CALL 5 2 2\n RETURN 5 2"), "'table: 60'");
        String names = "print tostring type error pcall setmetatable getmetatable rawget rawset rawlen rawequal next select sub byte char len create resume yield status running wrap collect";
        int place = 0;
        for (String name : names.split(" ")) {
            Play.due("main 2\n GLOBAL 0 '" + name + "'\n RETURN 0 2", "function:" + place);
            place++;
        }
    }

    private static void asksForATextThatIsAString() {
        Due.by("tables with __tostring: called with it, which must give a string (else ERROR 3)");
        String call = "GLOBAL 5 'tostring'\n MOVE 6 0\n CALL 5 2 0\n RETURN 5 0\n function f 0 1 4 u0\n %s\n end";
        String handler = "CLOSURE 5 f\n SETTABLE 1 '__tostring' 5";
        Play.due(with(handler, String.format(call, "LOADK 0 'text'\n RETURN 0 2")), "'text'");
        Play.due(with(handler, String.format(call, "LOADK 0 ''\n LOADK 1 'more'\n RETURN 0 3")), "''");
        Play.due(with(handler, String.format(call, "LOADK 0 #1\n RETURN 0 2")), "error 3");
        Play.due(with(handler, String.format(call, "LOADNIL 0 0\n RETURN 0 2")), "error 3");
        Play.due(with(handler, String.format(call, "RETURN 0 1")), "error 3");
        Play.due(with(handler, String.format(call, "GLOBAL 0 'select'\n LOADK 1 '#'\n VARARG 2 0\n CALL 0 0 2\n GLOBAL 1 'tostring'\n MOVE 2 0\n TAILCALL 1 2")), "'1'");
    }

    private static void namesTypes() {
        Due.by("\"type\": nil, boolean, number, string, table, function, thread.");
        called("type nil", "'nil'");
        called("type false", "'boolean'");
        called("type true", "'boolean'");
        called("type #0", "'number'");
        called("type ''", "'string'");
        called("type {}", "'table'");
        Play.due("main 4\n GLOBAL 0 'type'\n GLOBAL 1 'type'\n CALL 0 2 2\n RETURN 0 2", "'function'");
        Play.due("main 4\n GLOBAL 0 'type'\n CLOSURE 1 f\n CALL 0 2 2\n RETURN 0 2\n function f 0 0 2\n RETURN 0 1\n end", "'function'");
        Play.due("main 4\n GLOBAL 0 'type'\n GLOBAL 1 'running'\n CALL 1 1 2\n CALL 0 2 2\n RETURN 0 2", "'thread'");
    }

    private static void raisesItsArgument() {
        Due.by("\"error\": its argument is the ERROR.");
        called("error #7 #8", "error 7");
        called("error false", "error false");
        called("error {}", "error table:60");
        called("error ''", "error ''");
    }

    private static void callsProtected() {
        Due.by("\"pcall\": calls the first with the others: true and its results, or false and the ERROR.");
        Play.due("main 5\n GLOBAL 0 'pcall'\n GLOBAL 1 'select'\n LOADK 2 '#'\n CALL 0 3 0\n RETURN 0 0", "true 0");
        Play.due("main 5\n GLOBAL 0 'pcall'\n CLOSURE 1 f\n CALL 0 2 0\n RETURN 0 0\n function f 0 0 2\n RETURN 0 1\n end", "true");
        Play.due("main 5\n GLOBAL 0 'pcall'\n GLOBAL 1 'error'\n CALL 0 2 0\n RETURN 0 0", "false nil");
        Play.due("main 5\n GLOBAL 0 'pcall'\n GLOBAL 1 'pcall'\n CALL 0 2 0\n RETURN 0 0", "true false 1");
        called("pcall #1 #2", "false 1");
    }

    private static void setsMetatables() {
        Due.by("\"setmetatable\": (table, else ERROR 2; table or nil, else ERROR 2)");
        for (String wrong : new String[] {"nil", "true", "#1", "'a'"}) {
            called("setmetatable " + wrong + " {}", "error 2");
            called("setmetatable {} " + wrong, wrong.equals("nil") ? "table:60" : "error 2");
        }
        called("setmetatable {} {} {}", "table:60");
        called("setmetatable {} false", "error 2");
    }

    private static void keepsProtectedMetatables() {
        Due.by("ERROR 8 if it has one with __metatable; gives the first");
        String set = "GLOBAL 5 'setmetatable'\n MOVE 6 0\n LOADK 7 %s\n CALL 5 3 2\n RETURN 5 2";
        Play.due(with("SETTABLE 1 '__metatable' #1", String.format(set, "nil")), "error 8");
        Play.due(with("SETTABLE 1 '__metatable' false", String.format(set, "nil")), "error 8");
        Play.due(with("SETTABLE 1 '__metatable' #1", String.format(set, "#1")), "error 2");
        Play.due(with("", String.format(set, "nil")), "table:60");
        Play.due(with("SETTABLE 1 '__metatable' #1\n SETTABLE 1 '__metatable' nil", String.format(set, "nil")), "table:60");
        Play.due("main 6\n NEWTABLE 0\n NEWTABLE 1\n SETTABLE 0 '__metatable' #1\n GLOBAL 2 'setmetatable'\n MOVE 3 0\n MOVE 4 1\n CALL 2 3 2\n RETURN 2 2", "table:60");
    }

    private static void givesMetatables() {
        Due.by("\"getmetatable\": __metatable of it, or it, or nil (nil for all but tables).");
        String get = "GLOBAL 5 'getmetatable'\n MOVE 6 0\n CALL 5 2 2\n RETURN 5 2";
        Play.due(with("", get), "table:61");
        Play.due(with("SETTABLE 1 '__metatable' 'm'", get), "'m'");
        Play.due(with("SETTABLE 1 '__metatable' false", get), "false");
        called("getmetatable {}", "nil");
        called("getmetatable 'a'", "nil");
        Play.due("main 4\n GLOBAL 0 'getmetatable'\n GLOBAL 1 'print'\n CALL 0 2 2\n RETURN 0 2", "nil");
    }

    private static void readsAndWritesRaw() {
        Due.by("\"rawget\", \"rawset\" (gives the table), \"rawlen\" (tables, strings), \"rawequal\": without metamethods; ERROR 2 for what is none.");
        for (String wrong : new String[] {"nil", "true", "#1", "'a'"}) {
            called("rawget " + wrong + " #1", "error 2");
            called("rawset " + wrong + " #1 #1", "error 2");
        }
        called("rawget {} nil", "nil");
        called("rawset {} nil #1", "error 6");
        called("rawset {} nil nil", "error 6");
        called("rawset {} #1 nil", "table:60");
        String all = "GLOBAL 5 'error'\n SETTABLE 1 '__index' 5\n SETTABLE 1 '__newindex' 5\n SETTABLE 1 '__len' 5\n SETTABLE 1 '__eq' 5";
        Play.due(with(all, "GLOBAL 5 'rawget'\n MOVE 6 0\n LOADK 7 'x'\n CALL 5 3 2\n RETURN 5 2"), "nil");
        Play.due(with(all, "GLOBAL 5 'rawset'\n MOVE 6 0\n LOADK 7 #1\n LOADK 8 #9\n CALL 5 4 2\n GETTABLE 6 5 #1\n RETURN 5 3"), "table:60 9");
        Play.due(with(all, "GLOBAL 5 'rawlen'\n MOVE 6 0\n CALL 5 2 2\n RETURN 5 2"), "0");
        Play.due(with(all, "GLOBAL 5 'rawequal'\n MOVE 6 0\n NEWTABLE 7\n CALL 5 3 2\n RETURN 5 2"), "false");
    }

    private static void measuresRaw() {
        Due.by("\"rawlen\" (tables, strings)");
        called("rawlen ''", "0");
        called("rawlen 'abc'", "3");
        called("rawlen {}", "0");
        for (String wrong : new String[] {"nil", "true", "#1"}) {
            called("rawlen " + wrong, "error 2");
        }
    }

    private static void comparesRaw() {
        Due.by("\"rawequal\": without metamethods");
        called("rawequal nil nil", "true");
        called("rawequal nil false", "false");
        called("rawequal #1 '1'", "false");
        called("rawequal '' ''", "true");
        called("rawequal {} {}", "false");
    }

    private static void findsTheNext() {
        Due.by("\"next\" (table, key): key and value, or nil; ERROR 2; ERROR 6: no such key.");
        called("next {}", "nil");
        called("next {} nil", "nil");
        called("next {} #1", "error 6");
        for (String wrong : new String[] {"nil", "true", "#1", "'a'"}) {
            called("next " + wrong, "error 2");
        }
        Play.due("main 4\n GLOBAL 0 'next'\n GETUPVAL 1 0\n CALL 0 2 0\n RETURN 0 0", "'print' function:0");
        Play.due("main 4\n GLOBAL 0 'next'\n GETUPVAL 1 0\n LOADK 2 'collect'\n CALL 0 3 0\n RETURN 0 0", "nil");
    }

    private static void selectsFromTheFirstOn() {
        Due.by("\"select\" (n, ..): the n-th of the others and those behind; \"#\" their number");
        called("select #1 'a' 'b'", "'a' 'b'");
        called("select #2 'a' 'b'", "'b'");
        called("select #3 'a' 'b'", "");
        called("select #4 'a' 'b'", "");
        called("select " + MOST + " 'a' 'b'", "");
        called("select #1", "");
        called("select '#'", "0");
        called("select '#' nil", "1");
        called("select '#' 'a' nil nil", "3");
    }

    private static void selectsByNumbersAboveNothing() {
        Due.by("ERROR 7: n is no integer above 0");
        for (String wrong : new String[] {"#0", "#-1", LEAST, "nil", "true", "'1'", "''", "'##'"}) {
            called("select " + wrong + " 'a'", "error 7");
        }
        called("select {} 'a'", "error 7");
    }

    private static void cutsLikeLua() {
        Due.by("\"sub\" (string, i, j; nil counts as 1, -1): as Lua's string.sub");
        String[] numbers = {LEAST, "#-6", "#-5", "#-4", "#-1", "#0", "#1", "#2", "#5", "#6", MOST};
        String whole = "abcde";
        for (String first : numbers) {
            for (String last : numbers) {
                called("sub 'abcde' " + first + " " + last, "'" + cut(whole, Long.parseLong(first.substring(1)), Long.parseLong(last.substring(1))) + "'");
            }
            called("sub 'abcde' " + first, "'" + cut(whole, Long.parseLong(first.substring(1)), -1) + "'");
            called("sub 'abcde' nil " + first, "'" + cut(whole, 1, Long.parseLong(first.substring(1))) + "'");
            called("sub '' " + first, "''");
        }
        called("sub 'abcde' nil nil", "'abcde'");
    }

    /** As Lua's manual says it. */
    private static String cut(String whole, long first, long last) {
        long i = first < 0 ? Math.max(first + whole.length() + 1, 1) : Math.max(first, 1);
        long j = last < 0 ? last + whole.length() + 1 : Math.min(last, whole.length());
        return i > j ? "" : whole.substring((int) i - 1, (int) j);
    }

    private static void tellsOneByte() {
        Due.by("\"byte\" (string, i; nil counts as 1, below 0 from behind): the number of that byte, nil if there is none (0 too)");
        String[][] cases = {{"", "0"}, {" nil", "0"}, {" #1", "0"}, {" #2", "255"}, {" #3", "nil"}, {" #0", "nil"}, {" #-1", "255"}, {" #-2", "0"}, {" #-3", "nil"}, {" " + LEAST, "nil"}, {" " + MOST, "nil"}};
        for (String[] one : cases) {
            called("byte '\0\u00ff'" + one[0], one[1]);
        }
        called("byte ''", "nil");
        called("byte '' #-1", "nil");
    }

    private static void makesStringsOfBytes() {
        Due.by("\"char\" (integers 0 .. 255, else ERROR 7)");
        called("char #0", "'\0'");
        called("char #255", "'\u00ff'");
        called("char #256", "error 7");
        called("char #-1", "error 7");
        called("char " + MOST, "error 7");
        called("char #65 #66 #67", "'ABC'");
        called("char #65 #256", "error 7");
        called("char", "''");
        Play.due("main 4\n GLOBAL 0 'tostring'\n LOADK 1 #12\n CALL 0 2 2\n GLOBAL 1 'char'\n LOADK 2 #65\n CALL 1 2 2\n RETURN 0 3", "'12' 'A'");
    }

    private static void wantsStrings() {
        Due.by("ERROR 3: no string, or no integer there (nil, too, for \"char\"; else nil aside).");
        for (String wrong : new String[] {"nil", "true", "#1"}) {
            called("sub " + wrong + " #1 #1", "error 3");
            called("byte " + wrong + " #1", "error 3");
            called("len " + wrong, "error 3");
        }
        called("len {}", "error 3");
        called("len ''", "0");
        for (String wrong : new String[] {"true", "false", "'1'"}) {
            called("sub 'a' " + wrong, "error 3");
            called("sub 'a' #1 " + wrong, "error 3");
            called("byte 'a' " + wrong, "error 3");
            called("char " + wrong, "error 3");
        }
        // what is beyond their arguments says nothing
        called("sub 'abc' #2 #3 'x'", "'bc'");
        called("byte 'abc' #2 'x'", "98");
        called("len 'abc' 'x'", "3");
        called("char nil", "error 3");
        called("char #65 nil", "error 3");
    }
}
