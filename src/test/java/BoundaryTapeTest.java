import java.io.ByteArrayOutputStream;
import java.util.Arrays;

/** THE TAPE, CHUNK and FAULTS: for each sentence that names a boundary, what is due on both sides of it. */
public final class BoundaryTapeTest {
    /**
     * The outermost: head 0 .. 3, upvalue 4, constants 6, the string 8, the integer 14, code 23, prototypes 37.
     * The inner one: head 38 .. 41, upvalues 42 .. 45, constants 46, code 48, prototypes 54.
     */
    private static final byte[] PLAIN =
        Assembler.chunk("main 3\n LOADK 0 'abc'\n LOADK 1 #1\n RETURN 0 1\n function f 1 0 2 r2 u0\n RETURN 0 1\n end");

    public static void main(String[] args) {
        holds65536Bytes();
        isEmptyBehindLoad();
        hasTheHighestByteFirst();
        hasNothingBehind();
        takesMoreOrNot();
        hasTwoTo250Registers();
        hasNotFewerRegistersThanParameters();
        hasAtMost60Upvalues();
        namesUpvaluesOfTheOneAround();
        knowsFiveKindsOfConstants();
        hasStringsOfAnyLength();
        hasInstructions();
        isNestedAtMost20Deep();
        hasAtMost250Prototypes();
        hasAnOutermostOne();
        tellsTheFirstFaultFromTheLeft();
        endsTooEarly();
        tellsTooManyAlsoWhereTheTapeEnds();
        hasAtMost20000Parts();
        tellsTheFirstByteBehind();
        looksOverWhatHasBeenRead();
        Due.end();
    }

    private static void fault(byte[] bytes, int at, int value, String want) {
        Due.is("byte " + at + " is " + value, Play.faultOf(Play.with(bytes, at, value)), want);
    }

    /** More calls than an object promises to answer, but the tape's end is not nearer. */
    private static void holds65536Bytes() {
        Due.by("THE TAPE: bytes gathered by feed, at most 65,536");
        LuaMachine x = new LuaMachine();
        for (int i = 0; i < 3_276; i++) {
            x.feed(-1, -1, -1, -1, -1);
        }
        x.end(65_517);
        Due.isThrown("feed to 65,537", () -> x.feed(0, 0, 0, 0, 0), IllegalStateException.class);
        x.end(65_516);
        Due.is("feed to 65,536", x.feed(0, 0, 0, 0, 0), 65_536);
        Due.isThrown("feed of a full tape", () -> x.feed(0, 0, 0, 0, 0), IllegalStateException.class);
        Due.is("its length", x.count(0), 65_536);
    }

    private static void isEmptyBehindLoad() {
        Due.by("load takes it, and it is empty then, also if that throws");
        Play play = new Play();
        play.put(PLAIN);
        play.x.load();
        Due.is("behind a load", play.x.count(0), 0);
        play.x.feed(0, 0, 0, 0, 0);
        Due.isThrown("load of a fault", () -> play.x.load(), UnsupportedOperationException.class);
        Due.is("behind a fault", play.x.count(0), 0);
        play.x.limit(200);
        play.put(withStrings(141));
        Due.isThrown("load of too many objects", () -> play.x.load(), IllegalStateException.class);
        Due.is("behind too many objects", play.x.count(0), 0);
        Due.isThrown("load of the empty tape", () -> play.x.load(), UnsupportedOperationException.class);
        Due.is("its fault", play.x.fault(0) + " at " + play.x.fault(1), "1 at 0");
    }

    private static byte[] withStrings(int many) {
        StringBuilder text = new StringBuilder("main 2\n");
        for (int i = 0; i < many; i++) {
            text.append("LOADK 0 '").append((char) ('A' + i / 26)).append((char) ('A' + i % 26)).append("'\n");
        }
        return Assembler.chunk(text + "RETURN 0 1");
    }

    private static void hasTheHighestByteFirst() {
        Due.by("Numbers in it have their highest byte first.");
        Play.due("main 2\n LOADK 0 #72623859790382856\n RETURN 0 2", "72623859790382856");
        Play.due("main 2\n LOADK 0 #-2\n RETURN 0 2", "-2");
        StringBuilder text = new StringBuilder("main 2\n");
        for (int i = 0; i < 258; i++) {
            text.append("LOADK 0 #").append(i).append('\n');
        }
        Play.due(text + "RETURN 0 2", "257");
        LuaMachine x = new LuaMachine();
        x.feed(0x00010201, 0x01000000, 0x00020000, 0x00040100, 0x00260000);
        x.end(19);
        Due.is("an instruction that is read from its highest byte", x.load(), 1);
        Due.is("nil is given back", x.run(2) + " " + x.count(10), "1 1");
    }

    private static void hasNothingBehind() {
        Due.by("CHUNK: one PROTOTYPE and nothing behind it.");
        Due.is("nothing", Play.faultOf(PLAIN), "none");
        Due.is("one byte", Play.faultOf(Arrays.copyOf(PLAIN, 56)), "5 at 55");
    }

    private static void takesMoreOrNot() {
        Due.by("0 or 1 (takes more arguments)");
        fault(PLAIN, 39, 0, "none");
        fault(PLAIN, 39, 1, "none");
        fault(PLAIN, 39, 2, "2 at 39");
        fault(PLAIN, 39, 255, "2 at 39");
    }

    private static void hasTwoTo250Registers() {
        Due.by("M (registers: 2 .. 250");
        fault(PLAIN, 40, 0, "2 at 40");
        fault(PLAIN, 40, 1, "2 at 40");
        fault(PLAIN, 40, 2, "none");
        fault(PLAIN, 40, 250, "none");
        fault(PLAIN, 40, 251, "2 at 40");
        fault(PLAIN, 40, 255, "2 at 40");
        fault(PLAIN, 2, 1, "2 at 2");
        fault(PLAIN, 2, 251, "2 at 2");
    }

    private static void hasNotFewerRegistersThanParameters() {
        Due.by("not fewer than parameters)");
        fault(PLAIN, 38, 2, "none");
        fault(PLAIN, 38, 3, "2 at 40");
        byte[] wide = Play.with(PLAIN, 40, 250);
        fault(wide, 38, 250, "none");
        fault(wide, 38, 251, "2 at 40");
        fault(PLAIN, 0, 3, "none");
        fault(PLAIN, 0, 4, "2 at 2");
    }

    private static void hasAtMost60Upvalues() {
        Due.by("number of upvalues (at most 60)");
        String text = "main 2\n RETURN 0 1\n function f 0 0 2" + " r1".repeat(60);
        Due.is("60", Play.faultOf(Assembler.chunk(text + "\n RETURN 0 1\n end")), "none");
        byte[] more = Assembler.chunk(text + " r1\n RETURN 0 1\n end");
        Due.is("61", Play.faultOf(more), "2 at 18");
        Due.is("61 where the tape ends", Play.faultOf(Arrays.copyOf(more, 19)), "2 at 18");
    }

    private static void namesUpvaluesOfTheOneAround() {
        Due.by("for each two bytes: 1 and a register of the one around, or 0 and an upvalue of it");
        fault(PLAIN, 42, 2, "2 at 42");
        fault(PLAIN, 42, 255, "2 at 42");
        Due.by("(a register of the one around: below its M; an upvalue: there)");
        fault(PLAIN, 43, 2, "none");
        fault(PLAIN, 43, 3, "2 at 43");
        fault(PLAIN, 45, 1, "2 at 45");
        String inner = "main 9\n RETURN 0 1\n function f 0 0 4 r0 r1\n RETURN 0 1\n function g 0 0 9 %s\n RETURN 0 1\n end\n end";
        int place = 15 + 17 + 4;
        Due.is("its last register", Play.faultOf(Assembler.chunk(String.format(inner, "r3"))), "none");
        Due.is("a register of the outermost alone", Play.faultOf(Assembler.chunk(String.format(inner, "r4"))), "2 at " + (place + 1));
        Due.is("its last upvalue", Play.faultOf(Assembler.chunk(String.format(inner, "u1"))), "none");
        Due.is("an upvalue that it has not", Play.faultOf(Assembler.chunk(String.format(inner, "r0 u2"))), "2 at " + (place + 3));
    }

    private static void knowsFiveKindsOfConstants() {
        Due.by("2 bytes: number of constants, each a byte, and 0 nil, 1 false, 2 true, 3 and an integer of 8 bytes, 4 and a string");
        Play.due("main 5\n LOADK 0 nil\n LOADK 1 false\n LOADK 2 true\n LOADK 3 #-9223372036854775808\n LOADK 4 'x'\n RETURN 0 6", "nil false true -9223372036854775808 'x'");
        fault(PLAIN, 14, 5, "2 at 14");
        fault(PLAIN, 14, 255, "2 at 14");
        Due.is("no constants", Play.faultOf(Assembler.chunk("main 2\n RETURN 0 1")), "none");
    }

    private static void hasStringsOfAnyLength() {
        Due.by("4 and a string: length (2 bytes), bytes");
        for (int length : new int[] {0, 1, 255, 256, 257, 9_000}) {
            Play play = Play.of("main 2\n LOADK 0 '" + "z".repeat(length) + "'\n RETURN 0 2");
            play.finish();
            Due.is("its length", play.x.value(0), length);
        }
        fault(PLAIN, 9, 255, "1 at 11");
    }

    private static void hasInstructions() {
        Due.by("2 bytes: number of instructions (1 or more)");
        fault(PLAIN, 49, 0, "2 at 48");
        fault(PLAIN, 24, 0, "2 at 23");
        Due.is("one", Play.faultOf(Assembler.chunk("main 2\n JMP 0 -1")), "none");
    }

    private static byte[] nested(int deep) {
        String one = "function f 0 0 2\n RETURN 0 1\n";
        return Assembler.chunk("main 2\n RETURN 0 1\n" + one.repeat(deep - 1) + "end\n".repeat(deep - 1));
    }

    private static byte[] beside(int many) {
        StringBuilder text = new StringBuilder("main 2\n RETURN 0 1\n");
        for (int i = 1; i < many; i++) {
            text.append("function f").append(i).append(" 0 0 2\n RETURN 0 1\n end\n");
        }
        return Assembler.chunk(text.toString());
    }

    /** The outermost takes 15 bytes, each other one 13. */
    private static void isNestedAtMost20Deep() {
        Due.by("Nested at most 20 deep");
        Due.is("20", Play.faultOf(nested(20)), "none");
        Due.is("21", Play.faultOf(nested(21)), "3 at " + (15 + 19 * 13));
        String twice = "function f 0 0 2\n RETURN 0 1\n";
        String ends = "end\n".repeat(19);
        Due.is("20 deep twice", Play.faultOf(Assembler.chunk("main 2\n RETURN 0 1\n" + twice.repeat(19) + ends + twice.repeat(19) + ends)), "none");
    }

    private static void hasAtMost250Prototypes() {
        Due.by("at most 250 in all, the outermost counted");
        Play play = new Play();
        play.put(beside(250));
        Due.is("250", play.x.load(), 250);
        Due.is("251", Play.faultOf(beside(251)), "3 at " + (15 + 249 * 13));
    }

    private static void hasAnOutermostOne() {
        Due.by("The outermost one has just one upvalue, whatever its two bytes say, and takes more arguments.");
        fault(PLAIN, 3, 0, "2 at 3");
        fault(PLAIN, 3, 2, "2 at 3");
        fault(PLAIN, 4, 255, "none");
        fault(PLAIN, 5, 255, "none");
        fault(Play.with(PLAIN, 4, 0), 5, 60, "none");
        fault(PLAIN, 1, 0, "2 at 1");
        fault(PLAIN, 1, 2, "2 at 1");
        Play strange = new Play();
        strange.put(Play.with(Play.with(Assembler.chunk("main 2\n GLOBAL 0 'type'\n RETURN 0 2"), 4, 77), 5, 99));
        strange.x.load();
        Due.is("its upvalue is the globals all the same", strange.finish(), "function:2");
    }

    private static void tellsTheFirstFaultFromTheLeft() {
        Due.by("FAULTS of load, the first that reading from the left meets");
        Due.is("2 where the tape ends", Play.faultOf(Arrays.copyOf(Play.with(PLAIN, 1, 2), 2)), "2 at 1");
        Due.is("2 before 2", Play.faultOf(Play.with(Play.with(PLAIN, 14, 9), 39, 9)), "2 at 14");
        Due.is("1 before what is not there", Play.faultOf(Arrays.copyOf(PLAIN, 39)), "1 at 39");
        Due.is("2 before 5", Play.faultOf(Arrays.copyOf(Play.with(PLAIN, 39, 9), 60)), "2 at 39");
        Due.is("3 before 2", Play.faultOf(Play.with(nested(21), 15 + 19 * 13 + 1, 9)), "3 at " + (15 + 19 * 13));
        Due.is("2 before 3", Play.faultOf(Play.with(nested(21), 15 + 18 * 13 + 1, 9)), "2 at " + (15 + 18 * 13 + 1));
    }

    private static void endsTooEarly() {
        Due.by("Their place: the byte (the first one of a number, of an instruction, of a string's bytes, also if the others are not there).");
        int[] starts = {0, 1, 2, 3, 4, 5, 6, 8, 9, 11, 14, 15, 23, 25, 29, 33, 37, 38, 39, 40, 41, 42, 43, 44, 45, 46, 48, 50, 54};
        for (int length = 0; length < PLAIN.length; length++) {
            int place = 0;
            for (int start : starts) {
                place = start <= length ? start : place;
            }
            Due.is("the first " + length, Play.faultOf(Arrays.copyOf(PLAIN, length)), "1 at " + place);
        }
    }

    private static void tellsTooManyAlsoWhereTheTapeEnds() {
        Due.by("3 more than 250 PROTOTYPES, or deeper than 20, at its first byte (also if the TAPE ends there)");
        Due.is("251, ending there", Play.faultOf(Play.with(beside(250), 14, 250)), "3 at " + (15 + 249 * 13));
        Due.is("250, ending there", Play.faultOf(Play.with(beside(249), 14, 249)), "1 at " + (15 + 248 * 13));
        byte[] deep = nested(20);
        Due.is("21 deep, ending there", Play.faultOf(Play.with(deep, deep.length - 1, 1)), "3 at " + deep.length);
        byte[] less = nested(19);
        Due.is("20 deep, ending there", Play.faultOf(Play.with(less, less.length - 1, 1)), "1 at " + less.length);
    }

    /** A prototype of nils and of instructions that give nothing back. */
    private static byte[] parts(boolean outermost, int constants, int instructions, int inside) {
        ByteArrayOutputStream out = new ByteArrayOutputStream();
        int own = outermost ? 1 : 0;
        byte[] head = {0, (byte) own, 2, (byte) own};
        out.write(head, 0, 4);
        out.write(new byte[2], 0, 2 * own);
        out.write(constants >> 8);
        out.write(constants);
        out.write(new byte[constants], 0, constants);
        out.write(instructions >> 8);
        out.write(instructions);
        for (int i = 0; i < instructions; i++) {
            out.write(new byte[] {0, (byte) 0x80, 0, 38}, 0, 4);
        }
        out.write(inside);
        return out.toByteArray();
    }

    private static byte[] joined(byte[] first, byte[] second) {
        byte[] both = Arrays.copyOf(first, first.length + second.length);
        System.arraycopy(second, 0, both, first.length, second.length);
        return both;
    }

    private static void hasAtMost20000Parts() {
        Due.by("4 more than 20,000 constants and instructions in all, told at that which is one too many, if its first byte (all four of an instruction) is there");
        Due.is("19,999 constants and an instruction", Play.faultOf(parts(true, 19_999, 1, 0)), "none");
        byte[] more = parts(true, 20_000, 1, 0);
        Due.is("20,000 constants and an instruction", Play.faultOf(more), "4 at 20010");
        Due.is("three bytes of the instruction", Play.faultOf(Arrays.copyOf(more, 20_013)), "1 at 20010");
        byte[] constants = parts(true, 20_001, 1, 0);
        Due.is("20,001 constants", Play.faultOf(constants), "4 at 20008");
        Due.is("the last one is not there", Play.faultOf(Arrays.copyOf(constants, 20_008)), "1 at 20008");
        Due.is("the last one's first byte is there", Play.faultOf(Arrays.copyOf(Play.with(constants, 20_008, 3), 20_009)), "4 at 20008");
        byte[] outer = parts(true, 10_000, 1, 1);
        Due.is("20,000 in two", Play.faultOf(joined(outer, parts(false, 9_998, 1, 0))), "none");
        Due.is("an instruction more in the second", Play.faultOf(joined(outer, parts(false, 9_998, 2, 0))), "4 at " + (outer.length + 6 + 9_998 + 2 + 4));
        Due.is("a constant more in the second", Play.faultOf(joined(outer, parts(false, 10_000, 1, 0))), "4 at " + (outer.length + 6 + 9_999));
    }

    private static void tellsTheFirstByteBehind() {
        Due.by("5 bytes behind the CHUNK");
        Due.is("many", Play.faultOf(Arrays.copyOf(PLAIN, 90)), "5 at 55");
        Due.is("a second chunk", Play.faultOf(joined(PLAIN, PLAIN)), "5 at 55");
    }

    private static void looksOverWhatHasBeenRead() {
        Due.by("Then, PROTOTYPE by PROTOTYPE, each before those in it, instruction by instruction, 6 what is not WELL FORMED, place that instruction's first byte.");
        byte[] ill = Play.with(PLAIN, 28, 63);
        Due.is("the first instruction", Play.faultOf(ill), "6 at 25");
        Due.is("1 goes before", Play.faultOf(Arrays.copyOf(ill, 54)), "1 at 54");
        Due.is("2 goes before", Play.faultOf(Play.with(ill, 39, 2)), "2 at 39");
        Due.is("5 goes before", Play.faultOf(Arrays.copyOf(ill, 56)), "5 at 55");
        Due.is("the last instruction of the last", Play.faultOf(Play.with(PLAIN, 53, 2)), "6 at 50");
        Due.is("the outermost's last goes before the inner one's first", Play.faultOf(Play.with(Play.with(PLAIN, 53, 2), 36, 2)), "6 at 33");
        byte[] three = Assembler.chunk("main 2\n RETURN 0 1\n function f 0 0 2\n RETURN 0 1\n function g 0 0 2\n RETURN 0 1\n end\n end\n function h 0 0 2\n RETURN 0 1\n end");
        Due.is("one inside goes before the one behind", Play.faultOf(Play.with(Play.with(three, 15 + 2 * 13 + 11, 2), 15 + 13 + 11, 2)), "6 at " + (15 + 13 + 8));
    }
}
