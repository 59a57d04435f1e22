/** TABLE: for each sentence that names a boundary, what is due on both sides of it. */
public final class BoundaryTablesTest {
    private static final String FOUR = "main 8\n NEWTABLE 0\n SETTABLE 0 'a' #1\n SETTABLE 0 'b' #2\n SETTABLE 0 'c' #3\n SETTABLE 0 'd' #4\n";
    /** The keys of R(0) in their order, as one string. */
    private static final String WALK = "\n LOADK 7 ''\n GLOBAL 1 'next'\n MOVE 2 0\n LOADNIL 3 0\n JMP 0 >in\nbody:\n MOVE 5 7\n MOVE 6 4\n CONCAT 7 5 6\nin:\n TFORCALL 1 1\n TFORLOOP 3 >body\n RETURN 7 2";

    public static void main(String[] args) {
        hasNoRoomAtFirst();
        hasNoKeyNil();
        writesNilWhereNothingIs();
        writesNilWhereAnEntryIs();
        doublesAFullRoom();
        dropsDeadOnesOfAFullRoom();
        keepsARoomThatIsHalfEmpty();
        keepsDeadOnesUntilTheRoomIsFull();
        findsAllOfAFullRoom();
        comesToTheRowsEnd();
        measuresTheLeast();
        findsTheNext();
        tellsKeysApart();
        Due.end();
    }

    /** The room of the program's one table at the end. */
    private static void room(String program, int want) {
        Play play = Play.of(program + "\n RETURN 0 1");
        play.finish();
        Due.is("room behind " + program.replace('\n', ';'), play.x.count(6) - 32, want);
    }

    private static void hasNoRoomAtFirst() {
        Due.by("ENTRIES (key, value) in a row, and a ROOM, 0 at first");
        room("main 3\n NEWTABLE 0", 0);
        room("main 3\n NEWTABLE 0\n SETTABLE 0 'a' #1", 4);
        Play.due("main 3\n NEWTABLE 0\n GETTABLE 1 0 'a'\n RETURN 1 2", "nil");
    }

    private static void hasNoKeyNil() {
        Due.by("Key nil: reading gives nil, writing ERROR 6.");
        Play.due("main 3\n NEWTABLE 0\n GETTABLE 1 0 nil\n GETTABLE 2 0 1\n RETURN 1 3", "nil nil");
        Play.due("main 3\n NEWTABLE 0\n SETTABLE 0 nil #1\n RETURN 1 2", "error 6");
        Play.due("main 3\n NEWTABLE 0\n SETTABLE 0 nil nil\n RETURN 1 2", "error 6");
        Play.due("main 3\n NEWTABLE 0\n SETTABLE 0 false #1\n GETTABLE 1 0 false\n RETURN 1 2", "1");
        Play.due("main 3\n LOADNIL 0 0\n SETGLOBAL nil #1\n RETURN 0 1", "error 6");
    }

    private static void writesNilWhereNothingIs() {
        Due.by("Writing nil where there is no ENTRY does nothing");
        room("main 3\n NEWTABLE 0\n SETTABLE 0 'a' nil", 0);
        room(FOUR + "SETTABLE 0 'e' nil", 4);
        Play.due(FOUR + "SETTABLE 0 'e' nil" + WALK, "'abcd'");
        Play.due(FOUR + "SETTABLE 0 'e' nil\n GLOBAL 1 'next'\n MOVE 2 0\n LOADK 3 'e'\n CALL 1 3 2\n RETURN 1 2", "error 6");
    }

    private static void writesNilWhereAnEntryIs() {
        Due.by("else the ENTRY's value becomes it: it is DEAD with nil");
        Play.due(FOUR + "SETTABLE 0 'b' nil\n GETTABLE 1 0 'b'\n RETURN 1 2", "nil");
        Play.due(FOUR + "SETTABLE 0 'b' nil" + WALK, "'acd'");
        Play.due(FOUR + "SETTABLE 0 'b' nil\n SETTABLE 0 'b' #9" + WALK, "'abcd'");
        Play.due(FOUR + "SETTABLE 0 'b' false" + WALK, "'abcd'");
        Play.due(FOUR + "SETTABLE 0 'b' #5\n GETTABLE 1 0 'b'\n RETURN 1 2", "5");
        room(FOUR + "SETTABLE 0 'b' nil\n SETTABLE 0 'b' nil", 4);
    }

    private static void doublesAFullRoom() {
        Due.by("A new key: if there are as many ENTRIES as the ROOM");
        int[][] rooms = {{1, 4}, {3, 4}, {4, 4}, {5, 8}, {8, 8}, {9, 16}, {16, 16}, {17, 32}, {64, 64}, {65, 128}, {1024, 1024}, {1025, 2048}};
        for (int[] one : rooms) {
            room("main 6\n NEWTABLE 0\n LOADK 1 #1\n LOADK 2 #" + one[0] + "\n LOADK 3 #1\n FORPREP 1 >next\nbody:\n SETTABLE 0 4 4\nnext:\n FORLOOP 1 >body", one[1]);
        }
    }

    private static void dropsDeadOnesOfAFullRoom() {
        Due.by("DEAD ones go");
        Play.due(FOUR + "SETTABLE 0 'a' nil\n SETTABLE 0 'e' #5\n GLOBAL 1 'next'\n MOVE 2 0\n LOADK 3 'a'\n CALL 1 3 2\n RETURN 1 2", "error 6");
        Play.due(FOUR + "SETTABLE 0 'a' nil\n SETTABLE 0 'e' #5" + WALK, "'bcde'");
        Play.due(FOUR + "SETTABLE 0 'a' nil\n SETTABLE 0 'e' #5\n SETTABLE 0 'a' #6" + WALK, "'bcdea'");
        Play.due(FOUR + "SETTABLE 0 'd' nil\n SETTABLE 0 'c' nil\n SETTABLE 0 'e' #5\n SETTABLE 0 'd' #6" + WALK, "'abed'");
    }

    private static void keepsARoomThatIsHalfEmpty() {
        Due.by("then, if more than half of the ROOM is taken, or it is 0, it is doubled (0: 4)");
        room(FOUR + "SETTABLE 0 'a' nil\n SETTABLE 0 'e' #5", 8);
        room(FOUR + "SETTABLE 0 'a' nil\n SETTABLE 0 'b' nil\n SETTABLE 0 'e' #5", 4);
        room(FOUR + "SETTABLE 0 'a' nil\n SETTABLE 0 'b' nil\n SETTABLE 0 'c' nil\n SETTABLE 0 'd' nil\n SETTABLE 0 'e' #5", 4);
        String eight = FOUR + "SETTABLE 0 'e' #5\n SETTABLE 0 'f' #6\n SETTABLE 0 'g' #7\n SETTABLE 0 'h' #8\n SETTABLE 0 'a' nil\n SETTABLE 0 'c' nil\n SETTABLE 0 'e' nil\n";
        room(eight + "SETTABLE 0 'i' #9", 16);
        room(eight + "SETTABLE 0 'g' nil\n SETTABLE 0 'i' #9", 8);
        Play.due(eight + "SETTABLE 0 'g' nil\n SETTABLE 0 'i' #9" + WALK, "'bdfhi'");
    }

    private static void keepsDeadOnesUntilTheRoomIsFull() {
        Due.by("if there are as many ENTRIES as the ROOM, DEAD ones go");
        String three = "main 8\n NEWTABLE 0\n SETTABLE 0 'a' #1\n SETTABLE 0 'b' #2\n SETTABLE 0 'c' #3\n SETTABLE 0 'a' nil\n SETTABLE 0 'd' #4\n";
        Play.due(three + "GLOBAL 1 'next'\n MOVE 2 0\n LOADK 3 'a'\n CALL 1 3 2\n RETURN 1 2", "'b'");
        Play.due(three + "SETTABLE 0 'a' #5" + WALK, "'abcd'");
        room(three + "SETTABLE 0 'a' #5", 4);
    }

    /** Four keys that fill a room, as scattered as they may be: of a thousand such rooms no value is missed. */
    private static void findsAllOfAFullRoom() {
        Due.by("v is a table, and has a value there");
        StringBuilder text = new StringBuilder("main 12\n LOADK 0 #0\n LOADK 6 #1\n LOADK 1 #1\n LOADK 2 #1000\n LOADK 3 #1\n FORPREP 1 >next\nbody:\n NEWTABLE 5\n ");
        for (int key = 8; key < 12; key++) {
            text.append("MUL 6 6 #6364136223846793005\n ADD 6 6 #1442695040888963407\n MOVE ").append(key).append(" 6\n SETTABLE 5 6 #").append(key).append("\n ");
        }
        for (int key = 8; key < 12; key++) {
            text.append("GETTABLE 7 5 ").append(key).append("\n EQ 1 7 #").append(key).append("\n JMP 0 1\n ADD 0 0 #1\n ");
        }
        Play.due(text + "\nnext:\n FORLOOP 1 >body\n RETURN 0 2", "0");
    }

    private static void comesToTheRowsEnd() {
        Due.by("the new one comes to the row's end");
        Play.due("main 8\n NEWTABLE 0\n SETTABLE 0 #3 #1\n SETTABLE 0 #1 #1\n SETTABLE 0 'z' #1\n SETTABLE 0 #2 #1\n SETTABLE 0 'a' #1" + WALK, "'31z2a'");
    }

    private static void measuresTheLeast() {
        Due.by("LENGTH: the least n, 0 or more, such that n + 1 has no value.");
        String length = "\n LEN 1 0\n GLOBAL 2 'rawlen'\n MOVE 3 0\n CALL 2 2 2\n RETURN 1 3";
        Play.due("main 8\n NEWTABLE 0" + length, "0 0");
        Play.due("main 8\n NEWTABLE 0\n SETTABLE 0 #0 #1\n SETTABLE 0 #-1 #1\n SETTABLE 0 '1' #1" + length, "0 0");
        Play.due("main 8\n NEWTABLE 0\n SETTABLE 0 #2 #1" + length, "0 0");
        Play.due("main 8\n NEWTABLE 0\n SETTABLE 0 #1 false" + length, "1 1");
        String three = "main 8\n NEWTABLE 0\n SETTABLE 0 #3 #1\n SETTABLE 0 #2 #1\n SETTABLE 0 #1 #1\n LEN 4 0\n";
        Play.due(three + length, "3 3");
        Play.due(three + "SETTABLE 0 #2 nil" + length, "1 1");
        Play.due(three + "SETTABLE 0 #1 nil" + length, "0 0");
        Play.due(three + "SETTABLE 0 #3 nil" + length, "2 2");
        Play.due(three + "SETTABLE 0 #5 #1" + length, "3 3");
        Play.due(three + "SETTABLE 0 #5 #1\n SETTABLE 0 #4 #1" + length, "5 5");
        Play.due(three + "SETTABLE 0 #2 nil\n LEN 4 0\n SETTABLE 0 #2 #7" + length, "3 3");
        Play.due(three + "SETTABLE 0 #5 #1\n SETTABLE 0 #5 nil" + length, "3 3");
        Play.due(three + "SETTABLE 0 #0 #1\n SETTABLE 0 #0 nil" + length, "3 3");
        Play.due(three + "SETTABLE 0 #-5 #1\n SETTABLE 0 #-5 nil" + length, "3 3");
        Play.due(three + "SETTABLE 0 'x' #1\n SETTABLE 0 'x' nil" + length, "3 3");
        // another table where one of some length has gone
        Play.due(three + "LOADNIL 0 0\n GLOBAL 5 'collect'\n CALL 5 1 1\n NEWTABLE 0" + length, "0 0");
    }

    private static void findsTheNext() {
        Due.by("The next of a key: of the first ENTRY behind its own (nil: of all) that is not DEAD.");
        String next = "\n GLOBAL 1 'next'\n MOVE 2 0\n LOADK 3 %s\n CALL 1 3 0\n RETURN 1 0";
        Play.due(FOUR + String.format(next, "nil"), "'a' 1");
        Play.due(FOUR + String.format(next, "'a'"), "'b' 2");
        Play.due(FOUR + String.format(next, "'d'"), "nil");
        Play.due(FOUR + "SETTABLE 0 'a' nil" + String.format(next, "nil"), "'b' 2");
        Play.due(FOUR + "SETTABLE 0 'a' nil" + String.format(next, "'a'"), "'b' 2");
        Play.due(FOUR + "SETTABLE 0 'b' nil\n SETTABLE 0 'c' nil" + String.format(next, "'a'"), "'d' 4");
        Play.due(FOUR + "SETTABLE 0 'd' nil" + String.format(next, "'c'"), "nil");
        Play.due(FOUR + "SETTABLE 0 'd' nil" + String.format(next, "'d'"), "nil");
        Play.due(FOUR + String.format(next, "'e'"), "error 6");
        Play.due("main 8\n NEWTABLE 0" + String.format(next, "nil"), "nil");
        Play.due("main 8\n NEWTABLE 0" + String.format(next, "#1"), "error 6");
        Play.due(FOUR + "SETTABLE 0 'b' false" + String.format(next, "'a'"), "'b' false");
    }

    private static void tellsKeysApart() {
        Due.by("strings (rows of bytes), and by their identity tables, functions, coroutines");
        String keys = "main 9\n NEWTABLE 0\n SETTABLE 0 #1 'i'\n SETTABLE 0 '1' 's'\n SETTABLE 0 true 't'\n SETTABLE 0 false 'f'\n SETTABLE 0 '' 'e'\n SETTABLE 0 #0 'z'\n ";
        Play.due(keys + "GETTABLE 1 0 #1\n GETTABLE 2 0 '1'\n GETTABLE 3 0 true\n GETTABLE 4 0 false\n GETTABLE 5 0 ''\n GETTABLE 6 0 #0\n RETURN 1 7", "'i' 's' 't' 'f' 'e' 'z'");
        Play.due(keys + "GLOBAL 1 'print'\n SETTABLE 0 1 'b'\n NEWTABLE 2\n SETTABLE 0 2 'n'\n NEWTABLE 3\n GETTABLE 4 0 1\n GETTABLE 5 0 2\n GETTABLE 6 0 3\n GLOBAL 7 'type'\n GETTABLE 7 0 7\n RETURN 4 5", "'b' 'n' nil nil");
        Play.due(keys + "LOADK 1 ''\n LOADK 2 #1\n CONCAT 3 1 2\n GETTABLE 4 0 3\n RETURN 4 2", "'s'");
        Play.due("main 4\n NEWTABLE 0\n SETTABLE 0 #9223372036854775807 #1\n SETTABLE 0 #-9223372036854775808 #2\n GETTABLE 1 0 #9223372036854775807\n GETTABLE 2 0 #-9223372036854775808\n GETTABLE 3 0 #-1\n RETURN 1 4", "1 2 nil");
    }
}
