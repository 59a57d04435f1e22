/** Entries, their order and room, length, next, and writing lists. */
public final class TablesTest {
    public static void main(String[] args) {
        readsAndWrites();
        growsWhenItIsFull();
        dropsDeadOnes();
        findsWhatIsThere();
        keepsItsOrder();
        measuresTheLeastBorder();
        writesLists();
        takesKeysOfEachKind();
        closesUpItsPool();
        worksWhereThePoolBegins();
        Due.end();
    }

    private static void readsAndWrites() {
        Play.due("main 4\n NEWTABLE 0\n SETTABLE 0 'a' #1\n SETTABLE 0 'a' #2\n GETTABLE 1 0 'a'\n GETTABLE 2 0 'b'\n RETURN 1 3", "2 nil");
        Play.due("main 4\n NEWTABLE 0\n GETTABLE 1 0 nil\n RETURN 1 2", "nil");
        Play.due("main 4\n NEWTABLE 0\n SETTABLE 0 nil #1\n RETURN 0 1", "error 6");
        Play.due("main 4\n NEWTABLE 0\n SETTABLE 0 nil nil\n RETURN 0 1", "error 6");
        Play play = Play.of("main 4\n NEWTABLE 0\n SETTABLE 0 'a' nil\n RETURN 0 1");
        play.finish();
        Due.is("nil where there is no entry takes no room", play.x.count(7), 61);
    }

    /** Rooms of a table with n new keys, one behind the other. */
    private static int roomOf(int n) {
        Play play = Play.of("main 6\n NEWTABLE 0\n LOADK 1 #1\n LOADK 2 #" + n + "\n LOADK 3 #1\n FORPREP 1 >next\nbody:\n SETTABLE 0 4 4\nnext:\n FORLOOP 1 >body\n RETURN 0 2");
        play.x.limit(4000);
        play.finish();
        return play.x.count(6) - 32;
    }

    private static void growsWhenItIsFull() {
        int[] many = {1, 4, 5, 8, 9, 16, 17, 1000};
        int[] rooms = {4, 4, 8, 8, 16, 16, 32, 1024};
        for (int i = 0; i < many.length; i++) {
            Due.is("room of " + many[i] + " entries", roomOf(many[i]), rooms[i]);
        }
    }

    private static void dropsDeadOnes() {
        String four = "main 6\n NEWTABLE 0\n SETTABLE 0 'a' #1\n SETTABLE 0 'b' #2\n SETTABLE 0 'c' #3\n SETTABLE 0 'd' #4\n";
        Play two = Play.of(four + "SETTABLE 0 'a' nil\n SETTABLE 0 'c' nil\n SETTABLE 0 'e' #5\n GLOBAL 1 'next'\n MOVE 2 0\n LOADK 3 'a'\n CALL 1 3 3\n RETURN 1 3");
        Due.is("the key of one that has gone is none", two.finish(), "error 6");
        Due.is("with half of the room taken it stays", two.x.count(6), 36);
        Play one = Play.of(four + "SETTABLE 0 'a' nil\n SETTABLE 0 'e' #5\n GETTABLE 1 0 'e'\n RETURN 1 2");
        Due.is("a new one behind a dead one", one.finish(), "5");
        Due.is("with more than half taken the room is doubled", one.x.count(6), 40);
        Play.due(four + "SETTABLE 0 'b' nil\n GLOBAL 1 'next'\n MOVE 2 0\n LOADK 3 'b'\n CALL 1 3 3\n RETURN 1 3", "'c' 3");
        Play.due(four + "SETTABLE 0 'b' nil\n SETTABLE 0 'b' #7\n GLOBAL 1 'next'\n MOVE 2 0\n LOADK 3 'a'\n CALL 1 3 3\n RETURN 1 3", "'b' 7");
    }

    /** Keys come and go, in whole numbers and strings; what is gone is not found, what is there is. */
    private static void findsWhatIsThere() {
        Play play = Play.of("main 14\n NEWTABLE 0\n LOADK 1 #1\n LOADK 2 #2000\n LOADK 3 #1\n LOADK 9 #0\n FORPREP 1 >next\nbody:\n LOADK 6 'k'\n MOVE 7 4\n CONCAT 5 6 7\n SETTABLE 0 4 4\n SETTABLE 0 5 4\n"
            + "SUB 8 4 #7\n GETTABLE 10 0 8\n EQ 1 10 8\n JMP 0 >old\n LT 1 8 #1\n JMP 0 >old\n LOADK 9 #-1000000\nold:\n SETTABLE 0 8 nil\n LOADK 6 'k'\n MOVE 7 8\n CONCAT 5 6 7\n SETTABLE 0 5 nil\n"
            + "SUB 8 4 #8\n GETTABLE 10 0 8\n EQ 1 10 nil\n JMP 0 >gone\n LOADK 9 #-1000000\ngone:\n ADD 9 9 #1\nnext:\n FORLOOP 1 >body\n MOVE 8 9\n"
            + "GLOBAL 1 'next'\n MOVE 2 0\n LOADNIL 3 0\n LOADK 9 #0\n JMP 0 >in\nmore:\n ADD 9 9 #1\nin:\n TFORCALL 1 1\n TFORLOOP 3 >more\n RETURN 8 3");
        Due.is("turns that found all, and entries that are left", play.finish(), "2000 14");
        Due.is("room", play.x.count(6), 32 + 32);
        Play again = Play.of("main 14\n NEWTABLE 0\n LOADK 1 #1\n LOADK 2 #500\n LOADK 3 #1\n FORPREP 1 >next\nbody:\n MOD 5 4 #13\n SETTABLE 0 5 4\n SUB 5 4 #5\n MOD 5 5 #13\n SETTABLE 0 5 nil\nnext:\n FORLOOP 1 >body\n"
            + "GLOBAL 1 'next'\n MOVE 2 0\n LOADNIL 3 0\n LOADK 8 #0\n LOADK 9 ''\n JMP 0 >in\nmore:\n MOVE 10 4\n CONCAT 9 9 10\n ADD 8 8 5\nin:\n TFORCALL 1 2\n TFORLOOP 3 >more\n RETURN 8 3");
        Due.is("the sum of 496 to 500, and their keys in the order of their entries", again.finish(), "2490 '45623'");
    }

    private static void keepsItsOrder() {
        String walk = "GLOBAL 1 'next'\n MOVE 2 0\n LOADNIL 3 0\n JMP 0 >in\nbody:\n MOVE 6 4\n CONCAT 5 5 6\nin:\n TFORCALL 1 1\n TFORLOOP 3 >body\n RETURN 5 2";
        Play.due("main 8\n NEWTABLE 0\n LOADK 5 ''\n SETTABLE 0 'z' #1\n SETTABLE 0 #3 #1\n SETTABLE 0 'a' #1\n SETTABLE 0 #1 #1\n SETTABLE 0 #-5 #1\n SETTABLE 0 'q' #1\n" + walk, "'z3a1-5q'");
        Play.due("main 8\n NEWTABLE 0\n LOADK 5 ''\n SETTABLE 0 'z' #1\n SETTABLE 0 #3 #1\n SETTABLE 0 'a' #1\n SETTABLE 0 #1 #1\n SETTABLE 0 'z' nil\n SETTABLE 0 #1 nil\n"
            + "SETTABLE 0 'n' #1\n SETTABLE 0 'z' #1\n" + walk, "'3anz'");
        Play.due("main 5\n NEWTABLE 0\n GLOBAL 1 'next'\n MOVE 2 0\n CALL 1 2 0\n RETURN 1 0", "nil");
        Play.due("main 5\n NEWTABLE 0\n SETTABLE 0 #1 #1\n GLOBAL 1 'next'\n MOVE 2 0\n LOADK 3 #1\n CALL 1 3 0\n RETURN 1 0", "nil");
        Play.due("main 5\n NEWTABLE 0\n SETTABLE 0 #1 #1\n GLOBAL 1 'next'\n MOVE 2 0\n LOADK 3 #2\n CALL 1 3 0\n RETURN 1 0", "error 6");
    }

    private static void measuresTheLeastBorder() {
        String three = "main 5\n NEWTABLE 0\n SETTABLE 0 #1 #1\n SETTABLE 0 #2 #1\n SETTABLE 0 #4 #1\n LEN 1 0\n ";
        Play.due(three + "RETURN 1 2", "2");
        Play.due(three + "SETTABLE 0 #3 #1\n LEN 2 0\n RETURN 1 3", "2 4");
        Play.due(three + "SETTABLE 0 #3 #1\n LEN 2 0\n SETTABLE 0 #2 nil\n LEN 3 0\n SETTABLE 0 #2 #9\n LEN 4 0\n RETURN 2 4", "4 1 4");
        Play.due(three + "SETTABLE 0 #1 nil\n LEN 2 0\n RETURN 2 2", "0");
        Play.due("main 5\n NEWTABLE 0\n SETTABLE 0 #0 #1\n SETTABLE 0 #2 #1\n LEN 1 0\n RETURN 1 2", "0");
    }

    private static void writesLists() {
        Play.due("main 6\n NEWTABLE 0\n LOADK 1 #5\n LOADNIL 2 0\n LOADK 3 #7\n SETLIST 0 3 10\n GETTABLE 1 0 #10\n GETTABLE 2 0 #11\n GETTABLE 3 0 #12\n RETURN 1 4", "5 nil 7");
        Play.due("main 6\n LOADK 0 #1\n SETLIST 0 3 1\n RETURN 0 1", "error 2");
        Play.due("main 6\n NEWTABLE 0\n NEWTABLE 1\n GLOBAL 2 'print'\n SETTABLE 1 '__newindex' 2\n GLOBAL 2 'setmetatable'\n MOVE 3 0\n MOVE 4 1\n CALL 2 3 1\n LOADK 1 #8\n SETLIST 0 1 1\n"
            + "GETTABLE 1 0 #1\n RETURN 1 2", "8");
    }

    private static void takesKeysOfEachKind() {
        Play.due("main 9\n NEWTABLE 0\n NEWTABLE 1\n NEWTABLE 2\n CLOSURE 3 f\n GLOBAL 4 'print'\n SETTABLE 0 true #1\n SETTABLE 0 false #2\n SETTABLE 0 1 #3\n SETTABLE 0 2 #4\n SETTABLE 0 3 #5\n SETTABLE 0 4 #6\n"
            + "SETTABLE 0 '1' #7\n SETTABLE 0 #1 #8\n GETTABLE 5 0 true\n GETTABLE 6 0 1\n GETTABLE 7 0 4\n GETTABLE 8 0 #1\n RETURN 5 5\n function f 0 0 2\n RETURN 0 1\n end", "1 3 6 8");
        Play.due("main 5\n NEWTABLE 0\n SETTABLE 0 #9223372036854775807 #1\n SETTABLE 0 #-9223372036854775808 #2\n GETTABLE 1 0 #9223372036854775807\n GETTABLE 2 0 #-9223372036854775808\n RETURN 1 3", "1 2");
    }

    /** Many short lived tables beside one that grows: all of the pool is used several times. */
    private static void closesUpItsPool() {
        Play play = Play.of("main 12\n NEWTABLE 0\n LOADK 1 #1\n LOADK 2 #6000\n LOADK 3 #1\n FORPREP 1 >next\nbody:\n NEWTABLE 5\n SETTABLE 5 4 4\n SETTABLE 5 'a' 5\n SETTABLE 5 'b' 4\n SETTABLE 5 'c' 5\n SETTABLE 5 'd' 4\n"
            + "SETTABLE 0 4 4\n GETTABLE 6 5 4\n ADD 7 6 #0\nnext:\n FORLOOP 1 >body\n LOADK 8 #0\n LOADK 1 #1\n LOADK 2 #6000\n LOADK 3 #1\n FORPREP 1 >last\nsum:\n GETTABLE 5 0 4\n ADD 8 8 5\nlast:\n FORLOOP 1 >sum\n LEN 9 0\n RETURN 8 3");
        Due.is("the sum of 1 to 6,000, and how many", play.finish(), "18003000 6000");
        Due.is("all room", play.x.count(7), 61 + 6000 * 12 + 16380);
    }

    /** R(0) has one entry, R(1) is a table; the globals grow and so many tables come that R(0) lies where the pool begins. */
    private static void first(String key, String value, String body, String want) {
        StringBuilder text = new StringBuilder("main 12\n NEWTABLE 0\n NEWTABLE 1\n");
        text.append(value.equals("f") ? "CLOSURE 2 f\n" : "LOADK 2 " + value + "\n");
        text.append("SETTABLE 0 ").append(key).append(" 2\n");
        for (int i = 0; i < 9; i++) {
            text.append("SETGLOBAL 'g").append(i).append("' #1\n");
        }
        text.append("LOADK 2 #1\n LOADK 3 #13000\n LOADK 4 #1\n FORPREP 2 >next\nbody:\n NEWTABLE 6\n SETTABLE 6 #1 #1\nnext:\n FORLOOP 2 >body\n");
        Play.due(text + body + "\n function f 0 0 2\n LOADK 0 'f'\n RETURN 0 2\n end", want);
    }

    private static void worksWhereThePoolBegins() {
        String set = "GLOBAL 3 'setmetatable'\n MOVE 4 1\n MOVE 5 0\n CALL 3 3 1\n ";
        first("'x'", "#7", "GETTABLE 2 0 'x'\n RETURN 2 2", "7");
        first("'x'", "#7", "SETTABLE 0 'x' #8\n GETTABLE 2 0 'x'\n GLOBAL 3 'next'\n MOVE 4 0\n LOADK 5 'x'\n CALL 3 3 2\n RETURN 2 3", "8 nil");
        first("'x'", "#7", "SETTABLE 0 'x' #8\n GLOBAL 2 'next'\n MOVE 3 0\n CALL 2 2 3\n RETURN 2 3", "'x' 8");
        first("'x'", "#7", "GLOBAL 2 'error'\n SETTABLE 1 '__newindex' 2\n GLOBAL 3 'setmetatable'\n MOVE 4 0\n MOVE 5 1\n CALL 3 3 1\n SETTABLE 0 'x' #8\n GETTABLE 2 0 'x'\n RETURN 2 2", "8");
        first("'x'", "#7", "GLOBAL 3 'rawget'\n MOVE 4 0\n LOADK 5 'x'\n CALL 3 3 2\n RETURN 3 2", "7");
        first("'x'", "#7", "GLOBAL 3 'next'\n MOVE 4 0\n CALL 3 2 3\n RETURN 3 3", "'x' 7");
        first("#1", "#7", "LEN 2 0\n RETURN 2 2", "1");
        first("'__index'", "f", set + "GETTABLE 2 1 'x'\n RETURN 2 2", "'f'");
        first("'__newindex'", "#1", set + "SETTABLE 1 'x' #1\n RETURN 2 2", "error 2");
        first("'__call'", "f", set + "MOVE 2 1\n CALL 2 1 2\n RETURN 2 2", "'f'");
        first("'__add'", "f", set + "ADD 2 1 #1\n RETURN 2 2", "'f'");
        first("'__add'", "f", set + "ADD 2 #1 1\n RETURN 2 2", "'f'");
        first("'__len'", "f", set + "LEN 2 1\n RETURN 2 2", "'f'");
        first("'__tostring'", "f", set + "GLOBAL 2 'tostring'\n MOVE 3 1\n CALL 2 2 2\n RETURN 2 2", "'f'");
        first("'__metatable'", "#7", set + "GLOBAL 2 'getmetatable'\n MOVE 3 1\n CALL 2 2 2\n RETURN 2 2", "7");
        first("'__metatable'", "#7", set + "GLOBAL 3 'setmetatable'\n MOVE 4 1\n MOVE 5 0\n CALL 3 3 1\n RETURN 2 2", "error 8");
    }
}
