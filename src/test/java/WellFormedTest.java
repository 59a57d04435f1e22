/** Fault 6: what each instruction must be like. */
public final class WellFormedTest {
    public static void main(String[] args) {
        knowsItsOperations();
        wantsWhatIsNamed();
        wantsRowsOfRegisters();
        wantsPlacesToGo();
        wantsOpenRowsUsed();
        tellsTheFirst();
        Due.end();
    }

    /** The fault of a prototype of 5 registers, 2 constants, one upvalue and one prototype inside. */
    private static void isFaulty(String lines, int at) {
        String text = "main 5\n" + lines + "\n RETURN 0 1\n LOADK 0 'a'\n LOADK 0 'b'\n RETURN 0 1\n function f 0 0 2\n RETURN 0 1\n end";
        Play play = new Play();
        play.put(Assembler.chunk(text));
        String got;
        try {
            got = "none " + play.x.load();
        } catch (UnsupportedOperationException e) {
            got = play.x.fault(0) + " at " + play.x.fault(1);
        }
        int code = 6 + 2 + 2 * 4 + 2;
        Due.is(lines.replace('\n', ';'), got, at < 0 ? "none 2" : "6 at " + (code + 4 * at));
    }

    private static void isRight(String lines) {
        isFaulty(lines, -1);
    }

    private static void knowsItsOperations() {
        for (int operation : new int[] {2, 17, 18, 46, 47, 63}) {
            isFaulty("RAW " + operation, 0);
        }
    }

    private static void wantsWhatIsNamed() {
        String[] right = {"MOVE 4 4", "LOADK 4 1", "LOADBOOL 4 511 0", "GETUPVAL 4 0", "GETTABUP 4 0 4", "GETTABUP 4 0 257", "GETTABLE 4 4 257",
            "SETTABUP 0 257 4", "SETUPVAL 4 0", "SETTABLE 4 4 257", "NEWTABLE 4", "SELF 3 4 257", "ADD 4 257 4", "UNM 4 4", "BNOT 4 4", "NOT 4 4",
            "LEN 4 4", "CONCAT 4 3 4", "CLOSURE 4 0", "JMP 5 0"};
        for (String lines : right) {
            isRight(lines);
        }
        String[] faulty = {"MOVE 5 0", "MOVE 0 5", "LOADK 5 0", "LOADK 0 2", "LOADBOOL 5 0 0", "GETUPVAL 0 1", "GETUPVAL 5 0", "GETTABUP 5 0 0",
            "GETTABUP 0 1 0", "GETTABUP 0 0 5", "GETTABUP 0 0 258", "GETTABLE 0 5 0", "GETTABLE 0 0 258", "SETTABUP 1 0 0", "SETTABUP 0 5 0",
            "SETTABUP 0 0 258", "SETUPVAL 5 0", "SETUPVAL 0 1", "SETTABLE 5 0 0", "SETTABLE 0 255 0", "SETTABLE 0 0 258", "NEWTABLE 5", "SELF 4 0 0",
            "SELF 0 5 0", "SELF 0 0 258", "CONCAT 0 1 1", "CONCAT 0 2 1", "CONCAT 0 4 5", "CONCAT 5 0 1", "CLOSURE 0 1", "CLOSURE 5 0", "JMP 6 0"};
        for (String lines : faulty) {
            isFaulty(lines, 0);
        }
        for (String operation : "ADD SUB MUL MOD IDIV BAND BOR BXOR SHL SHR".split(" ")) {
            isFaulty(operation + " 5 0 0", 0);
            isFaulty(operation + " 0 5 0", 0);
            isFaulty(operation + " 0 0 258", 0);
        }
        for (String operation : "UNM BNOT NOT LEN".split(" ")) {
            isFaulty(operation + " 5 0", 0);
            isFaulty(operation + " 0 5", 0);
        }
        for (String operation : "EQ LT LE".split(" ")) {
            isRight(operation + " 1 4 257\n JMP 0 0");
            isFaulty(operation + " 2 0 0\n JMP 0 0", 0);
            isFaulty(operation + " 0 5 0\n JMP 0 0", 0);
            isFaulty(operation + " 0 0 258\n JMP 0 0", 0);
        }
        isRight("TEST 4 1\n JMP 0 0");
        isFaulty("TEST 5 0\n JMP 0 0", 0);
        isFaulty("TEST 0 2\n JMP 0 0", 0);
        isRight("TESTSET 4 4 1\n JMP 0 0");
        isFaulty("TESTSET 5 0 0\n JMP 0 0", 0);
        isFaulty("TESTSET 0 5 0\n JMP 0 0", 0);
        isFaulty("TESTSET 0 0 2\n JMP 0 0", 0);
    }

    private static void wantsRowsOfRegisters() {
        String[] right = {"LOADNIL 0 4", "CALL 0 5 6", "CALL 4 1 1", "CALL 4 1 2", "TAILCALL 0 5", "TAILCALL 4 1", "RETURN 0 6", "RETURN 4 1", "RETURN 4 2",
            "FORLOOP 1 0", "FORPREP 1 0", "TFORCALL 0 2", "TFORCALL 1 1", "TFORLOOP 3 0", "SETLIST 0 4 1", "SETLIST 4 0 1", "VARARG 0 6", "VARARG 4 1", "VARARG 4 2"};
        for (String lines : right) {
            if (!lines.equals("SETLIST 4 0 1")) {
                isRight(lines);
            }
        }
        String[] faulty = {"LOADNIL 0 5", "LOADNIL 4 1", "CALL 5 1 1", "CALL 0 6 1", "CALL 4 2 1", "CALL 0 1 7", "CALL 4 1 3", "TAILCALL 5 1", "TAILCALL 0 6",
            "RETURN 5 1", "RETURN 0 7", "RETURN 4 3", "FORLOOP 2 0", "FORPREP 2 0", "TFORCALL 0 3", "TFORCALL 2 1", "TFORCALL 0 0", "TFORLOOP 4 0",
            "SETLIST 0 5 1", "SETLIST 0 1 0", "SETLIST 5 1 1", "VARARG 5 1", "VARARG 0 7", "VARARG 4 3"};
        for (String lines : faulty) {
            isFaulty(lines, 0);
        }
    }

    private static void wantsPlacesToGo() {
        isRight("JMP 0 -1");
        isFaulty("JMP 0 -2", 0);
        isRight("JMP 0 3");
        isFaulty("JMP 0 4", 0);
        isFaulty("FORLOOP 0 -2", 0);
        isFaulty("FORPREP 0 4", 0);
        isFaulty("TFORLOOP 0 4", 0);
        isFaulty("EQ 0 0 0\n MOVE 0 0", 0);
        isFaulty("TEST 0 0\n RETURN 0 1", 0);
        isFaulty("TESTSET 0 0 0\n LOADNIL 0 0", 0);
        endsWith("MOVE 0 0", false);
        endsWith("CALL 0 1 1", false);
        endsWith("JMP 0 -1", true);
        endsWith("TAILCALL 0 1", true);
        endsWith("RETURN 0 1", true);
        endsWith("FORLOOP 0 -1", false);
        endsWith("LOADBOOL 0 0 1\n RETURN 0 1", false);
        endsWith("LOADBOOL 0 0 0\n RETURN 0 1", true);
        endsWith("LOADBOOL 0 0 1\n RETURN 0 1\n RETURN 0 1", true);
        endsWith("LT 0 0 0\n JMP 0 -2", false);
        endsWith("LT 0 0 0\n JMP 0 -2\n RETURN 0 1", true);
        endsWith("TEST 0 0", false);
    }

    private static void endsWith(String lines, boolean right) {
        Play play = new Play();
        play.put(Assembler.chunk("main 5\n" + lines));
        boolean loaded = true;
        try {
            play.x.load();
        } catch (UnsupportedOperationException e) {
            loaded = false;
            Due.is("fault of " + lines, play.x.fault(0) + " at " + play.x.fault(1), "6 at 10");
        }
        Due.is("whether a chunk may end with " + lines.replace('\n', ';'), String.valueOf(loaded), String.valueOf(right));
    }

    private static void wantsOpenRowsUsed() {
        isRight("VARARG 1 0\n CALL 0 0 1");
        isRight("VARARG 3 0\n CALL 0 0 1");
        isFaulty("VARARG 0 0\n CALL 0 0 1", 0);
        isRight("CALL 1 1 0\n TAILCALL 0 0");
        isFaulty("CALL 0 1 0\n TAILCALL 0 0", 0);
        isRight("CALL 0 1 0\n RETURN 0 0");
        isFaulty("CALL 0 1 0\n RETURN 1 0", 0);
        isRight("VARARG 1 0\n SETLIST 0 0 1");
        isFaulty("VARARG 0 0\n SETLIST 0 0 1", 0);
        isRight("VARARG 1 0\n CALL 0 0 0\n RETURN 0 0");
        isFaulty("VARARG 1 0\n MOVE 0 0", 0);
        isFaulty("VARARG 1 0\n CALL 0 1 1", 0);
        isFaulty("CALL 0 1 0\n RETURN 0 1", 0);
        isFaulty("CALL 0 0 1", 0);
        isFaulty("MOVE 0 0\n RETURN 0 0", 1);
        isFaulty("SETLIST 4 0 1", 0);
        isFaulty("VARARG 1 2\n SETLIST 0 0 1", 1);
        isFaulty("JMP 0 1\n VARARG 0 0\n RETURN 0 0", 0);
        isRight("JMP 0 0\n VARARG 0 0\n RETURN 0 0");
        isFaulty("LOADBOOL 0 0 1\n VARARG 0 0\n RETURN 0 0", 0);
        isFaulty("VARARG 0 0\n RETURN 0 0\n TFORLOOP 0 -2", 2);
        isFaulty("VARARG 0 0\n RETURN 0 0\n FORPREP 0 -2", 2);
    }

    private static void tellsTheFirst() {
        isFaulty("MOVE 0 0\n MOVE 9 0\n MOVE 9 9", 1);
        Play play = new Play();
        play.put(Assembler.chunk("main 2\n RETURN 0 1\n function f 0 0 2\n MOVE 0 0\n RETURN 0 1\n function h 0 0 2\n MOVE 2 0\n RETURN 0 1\n end\n end\n"
            + "function g 0 0 2\n MOVE 7 0\n RETURN 0 1\n end"));
        Due.isThrown("load", () -> play.x.load(), UnsupportedOperationException.class);
        Due.is("the place in the first prototype that is faulty", play.x.fault(1), 15 + 17 + 8);
    }
}
