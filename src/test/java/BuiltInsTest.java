/** The built in functions, but for coroutines and collections. */
public final class BuiltInsTest {
    public static void main(String[] args) {
        makesTexts();
        namesTypes();
        setsMetatables();
        worksWithoutMetamethods();
        selects();
        cutsStrings();
        tellsBytes();
        makesStringsOfBytes();
        takesMissingArgumentsAsNil();
        Due.end();
    }

    /** A call of a built in function with constants: all its results. */
    private static void called(String call, String want) {
        String[] words = call.split(" ");
        StringBuilder text = new StringBuilder("main 10\n GLOBAL 0 '" + words[0] + "'\n");
        for (int i = 1; i < words.length; i++) {
            text.append(words[i].equals("{}") ? "NEWTABLE " + i : "LOADK " + i + " " + words[i]).append('\n');
        }
        Play.due(text + "CALL 0 " + words.length + " 0\n RETURN 0 0", want);
    }

    private static void makesTexts() {
        Due.by("\"tostring\": nil, true, false, integers decimal, strings as they are; tables with __tostring: called with it, which must give a string (else ERROR 3);");
        called("tostring nil", "'nil'");
        called("tostring true", "'true'");
        called("tostring false", "'false'");
        called("tostring #-9223372036854775808", "'-9223372036854775808'");
        called("tostring #10", "'10'");
        called("tostring 'a'", "'a'");
        called("tostring {}", "'table: 60'");
        Play.due("main 4\n GLOBAL 0 'tostring'\n CLOSURE 1 f\n CALL 0 2 2\n GLOBAL 1 'tostring'\n GLOBAL 2 'collect'\n CALL 1 2 2\n GLOBAL 2 'tostring'\n GLOBAL 3 'running'\n CALL 3 1 2\n CALL 2 2 2\n RETURN 0 4\n"
            + "function f 0 0 2\n RETURN 0 1\n end", "'function: 60' 'builtin: 23' 'thread: 59'");
        String table = "main 6\n NEWTABLE 0\n NEWTABLE 1\n CLOSURE 2 f\n SETTABLE 1 '__tostring' 2\n GLOBAL 2 'setmetatable'\n MOVE 3 0\n MOVE 4 1\n CALL 2 3 1\n GLOBAL 2 'tostring'\n MOVE 3 0\n CALL 2 2 0\n RETURN 2 0\n";
        Play.due(table + "function f 0 1 3 u0\n GLOBAL 0 'type'\n VARARG 1 0\n CALL 0 0 2\n LOADK 1 #9\n RETURN 0 3\n end", "'table'");
        Play.due(table + "function f 1 0 3\n LOADK 0 #9\n RETURN 0 2\n end", "error 3");
        Play.due(table + "function f 1 0 3\n RETURN 0 1\n end", "error 3");
        Play.due(table.replace("CLOSURE 2 f", "GLOBAL 2 'tostring'") + "function f 1 0 3\n RETURN 0 1\n end", "error 4");
        Play.due(table.replace("CLOSURE 2 f", "LOADK 2 #1") + "function f 1 0 3\n RETURN 0 1\n end", "error 1");
    }

    private static void namesTypes() {
        String[] values = {"nil", "true", "false", "#1", "'a'", "{}"};
        String[] names = {"nil", "boolean", "boolean", "number", "string", "table"};
        for (int i = 0; i < values.length; i++) {
            called("type " + values[i], "'" + names[i] + "'");
        }
        Play.due("main 4\n GLOBAL 0 'type'\n MOVE 1 0\n CALL 0 2 2\n GLOBAL 1 'type'\n GLOBAL 2 'running'\n CALL 2 1 2\n CALL 1 2 2\n RETURN 0 3", "'function' 'thread'");
    }

    private static void setsMetatables() {
        called("setmetatable #1 {}", "error 2");
        called("setmetatable {} #1", "error 2");
        called("setmetatable {} {}", "table:60");
        called("setmetatable {} nil", "table:60");
        called("getmetatable {}", "nil");
        called("getmetatable 'a'", "nil");
        String table = "main 6\n NEWTABLE 0\n NEWTABLE 1\n%s\n GLOBAL 2 'setmetatable'\n MOVE 3 0\n MOVE 4 1\n CALL 2 3 1\n";
        Play.due(String.format(table, "") + "GLOBAL 2 'getmetatable'\n MOVE 3 0\n CALL 2 2 2\n RETURN 2 2", "table:61");
        Play.due(String.format(table, "SETTABLE 1 '__metatable' false") + "GLOBAL 2 'getmetatable'\n MOVE 3 0\n CALL 2 2 2\n RETURN 2 2", "false");
        Play.due(String.format(table, "SETTABLE 1 '__metatable' false") + "GLOBAL 2 'setmetatable'\n MOVE 3 0\n LOADNIL 4 0\n CALL 2 3 2\n RETURN 2 2", "error 8");
        Play.due(String.format(table, "SETTABLE 1 '__metatable' false") + "GLOBAL 2 'setmetatable'\n MOVE 3 0\n LOADK 4 #1\n CALL 2 3 2\n RETURN 2 2", "error 2");
        Play.due(String.format(table, "") + "GLOBAL 2 'setmetatable'\n MOVE 3 0\n LOADNIL 4 0\n CALL 2 3 2\n GLOBAL 3 'getmetatable'\n MOVE 4 0\n CALL 3 2 2\n RETURN 2 3", "table:60 nil");
    }

    private static void worksWithoutMetamethods() {
        called("rawget #1 #1", "error 2");
        called("rawget {} nil", "nil");
        called("rawset 'a' #1 #1", "error 2");
        called("rawset {} nil #1", "error 6");
        called("rawset {} #1 #1", "table:60");
        called("rawlen 'abc'", "3");
        called("rawlen {}", "0");
        called("rawlen #1", "error 2");
        called("rawequal #1 #1", "true");
        called("rawequal #1 '1'", "false");
        called("rawequal {} {}", "false");
        called("rawequal 'ab' 'ab'", "true");
        called("next #1", "error 2");
        String table = "main 6\n NEWTABLE 0\n NEWTABLE 1\n GLOBAL 2 'error'\n SETTABLE 1 '__index' 2\n SETTABLE 1 '__newindex' 2\n SETTABLE 1 '__len' 2\n SETTABLE 1 '__eq' 2\n GLOBAL 2 'setmetatable'\n MOVE 3 0\n MOVE 4 1\n CALL 2 3 1\n";
        Play.due(table + "GLOBAL 2 'rawset'\n MOVE 3 0\n LOADK 4 #1\n LOADK 5 #7\n CALL 2 4 1\n GLOBAL 2 'rawget'\n MOVE 3 0\n LOADK 4 #1\n CALL 2 3 2\n GLOBAL 3 'rawlen'\n MOVE 4 0\n CALL 3 2 2\n"
            + "GLOBAL 4 'rawequal'\n MOVE 5 0\n CALL 4 2 2\n RETURN 2 4", "7 1 false");
    }

    private static void selects() {
        called("select #1 'a' 'b'", "'a' 'b'");
        called("select #2 'a' 'b'", "'b'");
        called("select #3 'a' 'b'", "");
        called("select #9223372036854775807 'a'", "");
        called("select '#' 'a' nil nil", "3");
        called("select '#'", "0");
        called("select #0 'a'", "error 7");
        called("select #-1 'a'", "error 7");
        called("select 'a' 'a'", "error 7");
        called("select '##' 'a'", "error 7");
        called("select", "error 7");
    }

    private static void cutsStrings() {
        String[][] cases = {{"#1 #3", "abc"}, {"#2 #-2", "bcd"}, {"#-3 #-1", "cde"}, {"#0 #2", "ab"}, {"#-9 #2", "ab"}, {"#4 #99", "de"}, {"#4 #2", ""}, {"#6 #9", ""},
            {"#5 #5", "e"}, {"nil nil", "abcde"}, {"#3", "cde"}, {"nil #2", "ab"}, {"#1 #0", ""}, {"#1 #-6", ""}, {"#-9223372036854775808 #9223372036854775807", "abcde"},
            {"#9223372036854775807 #-9223372036854775808", ""}, {"#2 #-9223372036854775808", ""}};
        for (String[] one : cases) {
            called("sub 'abcde' " + one[0], "'" + one[1] + "'");
        }
        called("sub '' #1 #1", "''");
        called("sub #1 #1 #1", "error 3");
        called("sub 'a' '1' #1", "error 3");
        called("sub 'a' #1 true", "error 3");
    }

    private static void tellsBytes() {
        String[][] cases = {{"", "97"}, {" nil", "97"}, {" #2", "255"}, {" #3", "nil"}, {" #0", "nil"}, {" #-1", "255"}, {" #-2", "97"}, {" #-3", "nil"},
            {" #-9223372036854775808", "nil"}, {" #9223372036854775807", "nil"}, {" '1'", "error 3"}};
        for (String[] one : cases) {
            called("byte 'a\u00ff'" + one[0], one[1]);
        }
        called("byte ''", "nil");
        called("byte #1", "error 3");
        Due.by("\"len\" (string). ERROR 3: no string");
        called("len 'abc'", "3");
        called("len #1", "error 3");
        called("len {}", "error 3");
    }

    private static void makesStringsOfBytes() {
        called("char #104 #105", "'hi'");
        called("char #0 #255", "'\0\u00ff'");
        called("char", "''");
        called("char #256", "error 7");
        called("char #-1", "error 7");
        called("char 'a'", "error 3");
        called("char #1 nil", "error 3");
        called("char #256 'a'", "error 7");
        called("char 'a' #256", "error 3");
    }

    private static void takesMissingArgumentsAsNil() {
        called("tostring", "'nil'");
        called("type", "'nil'");
        called("error", "error nil");
        called("pcall", "false 1");
        called("setmetatable {}", "table:60");
        called("rawequal", "true");
        called("rawget {}", "nil");
        called("rawset {}", "error 6");
        called("len", "error 3");
        called("create", "error 1");
        called("resume", "error 2");
        called("status", "error 2");
        called("wrap", "error 1");
    }
}
