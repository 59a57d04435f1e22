/** WELL FORMED: for each sentence that names a boundary, what is due on both sides of it. */
public final class BoundaryWellFormedTest {
    /** Each operation that is named, with all that it names there. */
    private static final String[] RIGHT = {"MOVE 0 1", "LOADK 0 1", "LOADBOOL 0 0 0", "LOADNIL 0 1", "GETUPVAL 0 0", "GETTABUP 0 0 1", "GETTABLE 0 1 2", "SETTABUP 0 1 2",
        "SETUPVAL 0 0", "SETTABLE 0 1 2", "NEWTABLE 0", "SELF 0 1 2", "ADD 0 1 2", "SUB 0 1 2", "MUL 0 1 2", "MOD 0 1 2", "IDIV 0 1 2", "BAND 0 1 2", "BOR 0 1 2",
        "BXOR 0 1 2", "SHL 0 1 2", "SHR 0 1 2", "UNM 0 1", "BNOT 0 1", "NOT 0 1", "LEN 0 1", "CONCAT 0 1 2", "CALL 0 1 1", "FORLOOP 0 -1", "FORPREP 0 -1", "TFORCALL 0 1",
        "TFORLOOP 0 -1", "SETLIST 0 1 1", "CLOSURE 0 0", "VARARG 0 1"};
    private static final String[] TESTS = {"EQ 0 0 1", "LT 0 0 1", "LE 0 0 1", "TEST 0 0", "TESTSET 0 1 0"};

    public static void main(String[] args) {
        knowsItsOperations();
        hasRegistersBelowM();
        hasConstantsThatThereAre();
        tellsRegistersFromConstants();
        hasUpvaluesThatThereAre();
        hasPrototypesThatThereAre();
        hasTruthsOf0And1();
        jumpsToInstructions();
        skipsToInstructions();
        isFollowedByAnInstruction();
        isFollowedByAJump();
        ignoresWhatSaysNothing();
        joinsAtLeastTwo();
        closesFromRegisters();
        hasRowsOfRegisters();
        hasTheFirstRegisterOfCalls();
        hasResultsAndLists();
        opensRowsThatAreUsed();
        usesRowsThatAreOpen();
        isNotJumpedTo();
        Due.end();
    }

    /** A main of 5 registers, 2 constants, one upvalue and one prototype inside; -1 if it is well formed. */
    private static void isFaulty(String lines, int at) {
        String text = "main 5\n" + lines + "\n RETURN 0 1\n LOADK 0 'a'\n LOADK 0 'b'\n RETURN 0 1\n function f 0 0 2\n RETURN 0 1\n end";
        int code = 6 + 2 + 2 * 4 + 2;
        Due.is(lines.replace('\n', ';'), Play.faultOf(Assembler.chunk(text)), at < 0 ? "none" : "6 at " + (code + 4 * at));
    }

    private static void isRight(String lines) {
        isFaulty(lines, -1);
    }

    /** As it stands it is well formed; with any of these in its place it is not. */
    private static void border(String right, String... faulty) {
        isRight(right);
        for (String lines : faulty) {
            isFaulty(lines, 0);
        }
    }

    /** A main of 5 registers that ends with these lines, the first of which is faulty or none. */
    private static void ends(String lines, boolean right) {
        Due.is("a chunk that ends with " + lines.replace('\n', ';'), Play.faultOf(Assembler.chunk("main 5\n" + lines)), right ? "none" : "6 at 10");
    }

    private static void knowsItsOperations() {
        Due.by("the operation is named here");
        for (String lines : RIGHT) {
            isRight(lines);
        }
        for (String lines : TESTS) {
            isRight(lines + "\n JMP 0 0");
        }
        isRight("JMP 0 0");
        isRight("TAILCALL 0 1");
        isRight("RETURN 0 1");
        for (int operation = 46; operation < 64; operation++) {
            isFaulty("RAW " + operation, 0);
        }
        isFaulty("RAW 2", 0);
        isFaulty("RAW 17", 0);
        isFaulty("RAW 18", 0);
    }

    private static void hasRegistersBelowM() {
        Due.by("R(x): register x below M.");
        border("MOVE 4 4", "MOVE 5 0", "MOVE 0 5", "MOVE 255 0", "MOVE 0 511");
        border("LOADK 4 0", "LOADK 5 0");
        border("LOADBOOL 4 0 0", "LOADBOOL 5 0 0");
        border("GETUPVAL 4 0", "GETUPVAL 5 0");
        border("GETTABUP 4 0 4", "GETTABUP 5 0 0", "GETTABUP 0 0 5");
        border("GETTABLE 4 4 4", "GETTABLE 5 0 0", "GETTABLE 0 5 0", "GETTABLE 0 0 5", "GETTABLE 0 256 0");
        border("SETTABUP 0 4 4", "SETTABUP 0 5 0", "SETTABUP 0 0 5");
        border("SETUPVAL 4 0", "SETUPVAL 5 0");
        border("SETTABLE 4 4 4", "SETTABLE 5 0 0", "SETTABLE 0 5 0", "SETTABLE 0 0 5");
        border("NEWTABLE 4", "NEWTABLE 5");
        border("SELF 0 4 4", "SELF 0 5 0", "SELF 0 0 5", "SELF 0 256 0");
        for (String operation : "ADD SUB MUL MOD IDIV BAND BOR BXOR SHL SHR".split(" ")) {
            border(operation + " 4 4 4", operation + " 5 0 0", operation + " 0 5 0", operation + " 0 0 5");
        }
        for (String operation : "UNM BNOT NOT LEN".split(" ")) {
            border(operation + " 4 4", operation + " 5 0", operation + " 0 5", operation + " 0 256");
        }
        border("CONCAT 4 3 4", "CONCAT 5 0 1");
        for (String operation : "EQ LT LE".split(" ")) {
            border(operation + " 0 4 4\n JMP 0 0", operation + " 0 5 0\n JMP 0 0", operation + " 0 0 5\n JMP 0 0");
        }
        border("TEST 4 0\n JMP 0 0", "TEST 5 0\n JMP 0 0");
        border("TESTSET 4 4 0\n JMP 0 0", "TESTSET 5 0 0\n JMP 0 0", "TESTSET 0 5 0\n JMP 0 0", "TESTSET 0 256 0\n JMP 0 0");
        border("CLOSURE 4 0", "CLOSURE 5 0");
        Due.is("the last of 250", Play.faultOf(Assembler.chunk("main 250\n MOVE 249 249\n RETURN 0 1")), "none");
        Due.is("one behind 250", Play.faultOf(Assembler.chunk("main 250\n MOVE 249 250\n RETURN 0 1")), "6 at 10");
    }

    private static void hasConstantsThatThereAre() {
        Due.by("K(x): constant x that there is.");
        border("LOADK 0 1", "LOADK 0 2", "LOADK 0 255", "LOADK 0 262143");
        border("GETTABUP 0 0 257", "GETTABUP 0 0 258");
        border("GETTABLE 0 0 257", "GETTABLE 0 0 258");
        border("SETTABUP 0 257 257", "SETTABUP 0 258 0", "SETTABUP 0 0 258");
        border("SETTABLE 0 257 257", "SETTABLE 0 258 0", "SETTABLE 0 0 258");
        border("SELF 0 0 257", "SELF 0 0 258");
        for (String operation : "ADD SUB MUL MOD IDIV BAND BOR BXOR SHL SHR".split(" ")) {
            border(operation + " 0 257 257", operation + " 0 258 0", operation + " 0 0 258");
        }
        for (String operation : "EQ LT LE".split(" ")) {
            border(operation + " 0 257 257\n JMP 0 0", operation + " 0 258 0\n JMP 0 0", operation + " 0 0 258\n JMP 0 0");
        }
        ends("LOADK 0 0\n RETURN 0 1", false);
        ends("ADD 0 256 0\n RETURN 0 1", false);
    }

    private static void tellsRegistersFromConstants() {
        Due.by("RK(x): R(x) for x below 256, else K(x - 256).");
        border("ADD 0 256 0", "ADD 0 255 0");
        Play.due("main 2\n LOADK 0 #5\n ADD 1 0 256\n RETURN 1 2", "10");
        StringBuilder text = new StringBuilder("main 2\n");
        for (int i = 0; i < 256; i++) {
            text.append("LOADK 0 #").append(i).append('\n');
        }
        Play.due(text + "LOADK 0 #0\n ADD 1 0 511\n RETURN 1 2", "255");
    }

    private static void hasUpvaluesThatThereAre() {
        Due.by("U(x): upvalue that there is.");
        border("GETUPVAL 0 0", "GETUPVAL 0 1", "GETUPVAL 0 511");
        border("SETUPVAL 0 0", "SETUPVAL 0 1");
        border("GETTABUP 0 0 0", "GETTABUP 0 1 0");
        border("SETTABUP 0 0 0", "SETTABUP 1 0 0", "SETTABUP 255 0 0");
        String inner = "main 2\n RETURN 0 1\n function f 0 0 2 %s\n GETUPVAL 0 %d\n RETURN 0 1\n end";
        Due.is("none", Play.faultOf(Assembler.chunk(String.format(inner, "", 0))), "6 at 23");
        Due.is("the last of two", Play.faultOf(Assembler.chunk(String.format(inner, "u0 r0", 1))), "none");
        Due.is("one behind two", Play.faultOf(Assembler.chunk(String.format(inner, "u0 r0", 2))), "6 at 27");
    }

    private static void hasPrototypesThatThereAre() {
        Due.by("44 R(A) = a new closure of PROTOTYPE Bx");
        border("CLOSURE 0 0", "CLOSURE 0 1", "CLOSURE 0 250", "CLOSURE 0 262143");
        ends("CLOSURE 0 0\n RETURN 0 1", false);
        String grandchild = "main 2\n CLOSURE 0 %d\n RETURN 0 1\n function f 0 0 2\n RETURN 0 1\n function g 0 0 2\n RETURN 0 1\n end\n end";
        Due.is("its own", Play.faultOf(Assembler.chunk(String.format(grandchild, 0))), "none");
        Due.is("one inside its own is not its own", Play.faultOf(Assembler.chunk(String.format(grandchild, 1))), "6 at 10");
    }

    private static void hasTruthsOf0And1() {
        Due.by("RK(B) and RK(C), A 0 or 1");
        for (String operation : "EQ LT LE".split(" ")) {
            border(operation + " 1 0 0\n JMP 0 0", operation + " 2 0 0\n JMP 0 0", operation + " 255 0 0\n JMP 0 0");
        }
        Due.by("(C 0 or 1.)");
        border("TEST 0 1\n JMP 0 0", "TEST 0 2\n JMP 0 0", "TEST 0 511\n JMP 0 0");
        border("TESTSET 0 0 1\n JMP 0 0", "TESTSET 0 0 2\n JMP 0 0", "TESTSET 0 0 511\n JMP 0 0");
    }

    /** The line itself, three behind it. */
    private static void jumpsToInstructions() {
        Due.by("where it jumps, or what is behind a skip, is an instruction");
        for (String operation : "JMP FORLOOP FORPREP TFORLOOP".split(" ")) {
            border(operation + " 0 -1", operation + " 0 -2", operation + " 0 -131071");
            border(operation + " 0 3", operation + " 0 4", operation + " 0 131072");
        }
        String inner = "main 2\n RETURN 0 1\n function f 0 0 2\n JMP 0 1\n RETURN 0 1\n end\n function g 0 0 2\n RETURN 0 1\n end";
        Due.is("not into the next prototype", Play.faultOf(Assembler.chunk(inner)), "6 at 23");
    }

    private static void skipsToInstructions() {
        Due.by("what is behind a skip, is an instruction");
        ends("LOADBOOL 0 0 1\n RETURN 0 1\n RETURN 0 1", true);
        ends("LOADBOOL 0 0 1\n RETURN 0 1", false);
        ends("LOADBOOL 0 0 256\n RETURN 0 1", false);
        ends("LOADBOOL 0 0 511\n RETURN 0 1", false);
        ends("LOADBOOL 0 0 0\n RETURN 0 1", true);
        for (String lines : TESTS) {
            ends(lines + "\n JMP 0 -2\n RETURN 0 1", true);
            ends(lines + "\n JMP 0 -2", false);
        }
    }

    private static void isFollowedByAnInstruction() {
        Due.by("and so is the next one (behind all but 30, 37 and 38)");
        for (String lines : RIGHT) {
            Due.is("ending with " + lines, Play.faultOf(Assembler.chunk("main 5\n JMP 0 2\n LOADK 0 'a'\n LOADK 0 'b'\n " + lines + "\n function f 0 0 2\n RETURN 0 1\n end")), "6 at " + (18 + 12));
        }
        for (String lines : TESTS) {
            ends(lines, false);
        }
        ends("CALL 0 1 0", false);
        ends("VARARG 0 0", false);
        ends("JMP 0 -1", true);
        ends("TAILCALL 0 1", true);
        ends("RETURN 0 1", true);
    }

    private static void isFollowedByAJump() {
        Due.by("31 .. 35 are followed by 30.");
        for (String lines : TESTS) {
            isRight(lines + "\n JMP 0 0");
            isFaulty(lines + "\n MOVE 0 0", 0);
            isFaulty(lines + "\n RETURN 0 1", 0);
            isFaulty(lines + "\n FORPREP 0 0", 0);
            isFaulty(lines + "\n EQ 0 0 0\n JMP 0 0", 0);
        }
        isRight("NOT 0 0\n MOVE 0 0");
    }

    /** An instruction of raw fields. */
    private static String raw(int operation, int a, int b, int c) {
        return "RAW " + (operation | a << 6 | (long) c << 14 | (long) b << 23);
    }

    private static void ignoresWhatSaysNothing() {
        Due.by("all that it names is there");
        int[][] named = {{0, 0, 0, 511}, {4, 0, 0, 511}, {5, 0, 0, 511}, {9, 0, 0, 511}, {11, 0, 511, 511}, {25, 0, 0, 511}, {26, 0, 0, 511}, {27, 0, 0, 511}, {28, 0, 0, 511}, {37, 0, 1, 511}, {38, 0, 1, 511},
            {41, 0, 511, 1}, {45, 0, 1, 511}};
        for (int[] one : named) {
            isRight(raw(one[0], one[1], one[2], one[3]));
        }
        isRight(raw(34, 0, 511, 0) + "\n JMP 0 0");
        for (int c : new int[] {0, 1, 256, 511}) {
            isRight(raw(45, 1, 0, c) + "\n " + raw(37, 0, 0, c));
            isRight(raw(45, 1, 0, c) + "\n " + raw(38, 0, 0, c));
            isFaulty(raw(37, 0, 0, c), 0);
            isFaulty(raw(38, 0, 0, c), 0);
            isFaulty(raw(45, 1, 0, c) + "\n MOVE 0 0", 0);
        }
        isRight("VARARG 1 0\n SETLIST 0 0 511");
        isFaulty("SETLIST 0 0 511", 0);
        Due.is("in the highest registers", Play.faultOf(Assembler.chunk("main 250\n CALL 249 1 0\n CALL 248 0 0\n RETURN 200 0\n CALL 128 1 0\n RETURN 128 0")), "none");
        Due.is("behind in the highest registers", Play.faultOf(Assembler.chunk("main 250\n CALL 249 1 0\n CALL 249 0 1\n RETURN 0 1")), "6 at 10");
    }

    private static void joinsAtLeastTwo() {
        Due.by("B below C");
        border("CONCAT 0 0 1", "CONCAT 0 1 1", "CONCAT 0 2 1");
        border("CONCAT 0 0 4", "CONCAT 0 0 5", "CONCAT 0 4 256");
    }

    private static void closesFromRegisters() {
        Due.by("A not 0: variables from R(A - 1) on are CLOSED before");
        isRight("JMP 0 0");
        border("JMP 5 0", "JMP 6 0", "JMP 255 0");
    }

    private static void hasRowsOfRegisters() {
        Due.by("Registers that are named in a row (4, 12, 29, 36, 39 .. 43, 45) must be there: up to the last argument and the last result");
        border("LOADNIL 0 4", "LOADNIL 0 5", "LOADNIL 4 1", "LOADNIL 0 511");
        border("LOADNIL 4 0", "LOADNIL 5 0");
        border("SELF 3 0 0", "SELF 4 0 0");
        border("CONCAT 0 3 4", "CONCAT 0 4 5");
        border("CALL 0 5 1", "CALL 0 6 1", "CALL 4 2 1", "CALL 0 511 1");
        border("CALL 0 1 6", "CALL 0 1 7", "CALL 4 1 3", "CALL 0 1 511");
        border("TAILCALL 0 5", "TAILCALL 0 6", "TAILCALL 4 2");
        border("RETURN 0 6", "RETURN 0 7", "RETURN 4 3");
        border("FORLOOP 1 0", "FORLOOP 2 0");
        border("TFORCALL 0 2", "TFORCALL 0 3", "TFORCALL 1 2", "TFORCALL 0 511");
        border("TFORLOOP 3 0", "TFORLOOP 4 0");
        border("SETLIST 0 4 1", "SETLIST 0 5 1", "SETLIST 4 1 1");
        border("VARARG 0 6", "VARARG 0 7", "VARARG 4 3");
    }

    private static void hasTheFirstRegisterOfCalls() {
        Due.by("so must R(A) of 36 to 45, and R(A + 3) of 40");
        border("CALL 4 1 1", "CALL 5 1 1");
        border("TAILCALL 4 1", "TAILCALL 5 1");
        border("RETURN 4 1", "RETURN 5 1");
        border("FORPREP 1 0", "FORPREP 2 0", "FORPREP 5 0");
        border("VARARG 4 1", "VARARG 5 1");
        isFaulty("CALL 5 1 0\n RETURN 0 0", 0);
        isFaulty("VARARG 5 0\n RETURN 0 0", 0);
        border("CALL 4 1 0\n RETURN 0 0", "CALL 5 1 0\n RETURN 5 0");
        isFaulty("CALL 4 1 0\n SETLIST 5 0 1", 0);
    }

    private static void hasResultsAndLists() {
        Due.by("C results, 1 or more");
        border("TFORCALL 0 1", "TFORCALL 0 0");
        Due.by("C 1 or more");
        border("SETLIST 0 1 1", "SETLIST 0 1 0");
        isRight("SETLIST 0 1 511");
        isFaulty("VARARG 1 0\n SETLIST 0 0 0", 1);
    }

    private static void opensRowsThatAreUsed() {
        Due.by("36 with C 0 and 45 with B 0 are followed by one that uses it: 36, 37, 38, 43 with B 0");
        for (String open : new String[] {"CALL 1 1 0", "VARARG 1 0"}) {
            for (String user : new String[] {"CALL 0 0 1", "TAILCALL 0 0", "RETURN 0 0", "SETLIST 0 0 1"}) {
                isRight(open + "\n " + user);
            }
            for (String other : new String[] {"CALL 0 1 1", "TAILCALL 0 1", "RETURN 0 1", "SETLIST 0 1 1", "MOVE 0 0", "VARARG 0 0\n RETURN 0 0", "LOADBOOL 0 0 0", "JMP 0 0"}) {
                isFaulty(open + "\n " + other, 0);
            }
        }
        isRight("VARARG 1 0\n CALL 0 0 0\n RETURN 0 0");
        isFaulty("VARARG 1 0\n CALL 0 0 0\n MOVE 0 0", 1);
        Due.by("whose first such register (A + 1; 38: A) is not behind that where the row begins");
        border("VARARG 2 0\n CALL 1 0 1", "VARARG 2 0\n CALL 2 0 1");
        border("CALL 2 1 0\n TAILCALL 1 0", "CALL 2 1 0\n TAILCALL 2 0");
        border("VARARG 2 0\n RETURN 2 0", "VARARG 2 0\n RETURN 3 0");
        border("CALL 2 1 0\n SETLIST 1 0 1", "CALL 2 1 0\n SETLIST 2 0 1");
        isRight("VARARG 4 0\n CALL 0 0 1");
    }

    private static void usesRowsThatAreOpen() {
        Due.by("it stands nowhere else");
        for (String user : new String[] {"CALL 0 0 1", "TAILCALL 0 0", "RETURN 0 0", "SETLIST 0 0 1"}) {
            isFaulty(user, 0);
            isFaulty("MOVE 0 0\n " + user, 1);
            isFaulty("VARARG 1 2\n " + user, 1);
            isFaulty("CALL 1 1 1\n " + user, 1);
            isFaulty("VARARG 1 0\n CALL 0 0 1\n " + user, 2);
        }
    }

    private static void isNotJumpedTo() {
        Due.by("what jumps or skips to it is not WELL FORMED");
        for (String user : new String[] {"CALL 0 0 1", "TAILCALL 0 0", "RETURN 0 0", "SETLIST 0 0 1"}) {
            String row = "\n VARARG 1 0\n " + user;
            for (String operation : "JMP FORLOOP FORPREP TFORLOOP".split(" ")) {
                border(operation + " 0 0" + row, operation + " 0 1" + row);
                isFaulty("VARARG 1 0\n " + user + "\n " + operation + " 0 -2", 2);
                isRight("VARARG 1 0\n " + user + "\n " + operation + " 0 -3");
            }
            isFaulty("LOADBOOL 0 0 1" + row, 0);
            isRight("LOADBOOL 0 0 0" + row);
            isRight("LOADBOOL 0 0 1\n MOVE 0 0" + row);
        }
    }
}
