import java.util.Arrays;

/** Promise 5: fault, for what reading the tape can meet; WellFormedTest has the instructions. */
public final class Promise05FaultTest {
    private static final String PLAIN = "main 3\n LOADK 0 'abc'\n LOADK 1 #1\n RETURN 0 1\n function f 1 0 2 r2 u0\n RETURN 0 1\n end";

    public static void main(String[] args) {
        takesTwoNumbersAlone();
        tellsEachTooEarlyEnd();
        tellsWhatIsNotSo();
        tellsTooManyOrTooDeep();
        tellsTooManyParts();
        tellsBytesBehind();
        tellsTheLastLoad();
        Due.end();
    }

    private static void takesTwoNumbersAlone() {
        LuaMachine x = new LuaMachine();
        Due.isThrown("fault(2)", () -> x.fault(2), IllegalArgumentException.class);
        Due.isThrown("fault(-1)", () -> x.fault(-1), IllegalArgumentException.class);
    }

    private static String faultOf(byte[] bytes) {
        Play play = new Play();
        play.put(bytes);
        try {
            play.x.load();
        } catch (UnsupportedOperationException e) {
            return play.x.fault(0) + " at " + play.x.fault(1);
        }
        return "none";
    }

    private static byte[] with(byte[] bytes, int at, int value) {
        byte[] changed = bytes.clone();
        changed[at] = (byte) value;
        return changed;
    }

    /** The place is that of the byte, or of the first of a number, an instruction, a string's bytes. */
    private static void tellsEachTooEarlyEnd() {
        byte[] bytes = Assembler.chunk(PLAIN);
        // head 0-3, upvalue 4-5, 2 constants at 6, strings' kind 8, length 9, bytes 11, integer's kind 14, bytes 15,
        // 3 instructions: number 23, code 25, one prototype 37, and its head 38-41, upvalues 42-45, number 46, 48, code 50, last 54
        int[] starts = {0, 1, 2, 3, 4, 5, 6, 8, 9, 11, 14, 15, 23, 25, 29, 33, 37, 38, 39, 40, 41, 42, 43, 44, 45, 46, 48, 50, 54};
        Due.is("the whole length", bytes.length, 55);
        Due.is("the whole", faultOf(bytes), "none");
        for (int length = 0; length < bytes.length; length++) {
            int place = 0;
            for (int start : starts) {
                place = start <= length ? start : place;
            }
            Due.is("the first " + length, faultOf(Arrays.copyOf(bytes, length)), "1 at " + place);
        }
    }

    private static void tellsWhatIsNotSo() {
        byte[] bytes = Assembler.chunk(PLAIN);
        Due.is("the outermost takes no more", faultOf(with(bytes, 1, 0)), "2 at 1");
        Due.is("takes 2", faultOf(with(bytes, 1, 2)), "2 at 1");
        Due.is("1 register", faultOf(with(bytes, 2, 1)), "2 at 2");
        Due.is("251 registers", faultOf(with(bytes, 2, 251)), "2 at 2");
        Due.is("250 registers", faultOf(with(bytes, 2, 250)), "none");
        Due.is("3 parameters", faultOf(with(bytes, 0, 3)), "none");
        Due.is("more parameters than registers", faultOf(with(bytes, 0, 4)), "2 at 2");
        Due.is("no upvalue of the outermost", faultOf(with(bytes, 3, 0)), "2 at 3");
        Due.is("two upvalues of the outermost", faultOf(with(bytes, 3, 2)), "2 at 3");
        Due.is("whatever the outermost's upvalue is", faultOf(with(with(bytes, 4, 77), 5, 255)), "none");
        Due.is("a constant of kind 5", faultOf(with(bytes, 14, 5)), "2 at 14");
        Due.is("no instruction", faultOf(with(bytes, 24, 0)), "2 at 23");
        Due.is("an inner one takes more", faultOf(with(bytes, 39, 1)), "none");
        Due.is("an inner one takes 2", faultOf(with(bytes, 39, 2)), "2 at 39");
        Due.is("an inner one has fewer registers than parameters", faultOf(with(bytes, 38, 3)), "2 at 40");
        Due.is("61 upvalues", faultOf(with(bytes, 41, 61)), "2 at 41");
        Due.is("an upvalue of kind 2", faultOf(with(bytes, 42, 2)), "2 at 42");
        Due.is("a register that is not there", faultOf(with(bytes, 43, 3)), "2 at 43");
        Due.is("an upvalue that is not there", faultOf(with(bytes, 45, 1)), "2 at 45");
        Due.is("the first of two", faultOf(with(with(bytes, 43, 3), 2, 1)), "2 at 2");
    }

    private static byte[] nested(int deep) {
        StringBuilder text = new StringBuilder("main 2\n RETURN 0 1\n");
        for (int i = 1; i < deep; i++) {
            text.append("function f 0 0 2\n RETURN 0 1\n");
        }
        for (int i = 1; i < deep; i++) {
            text.append("end\n");
        }
        return Assembler.chunk(text.toString());
    }

    /** The outermost takes 15 bytes, each other one 13. */
    private static void tellsTooManyOrTooDeep() {
        Due.is("20 deep", faultOf(nested(20)), "none");
        Due.is("21 deep", faultOf(nested(21)), "3 at " + (15 + 19 * 13));
        Due.is("21 deep, ending there", faultOf(Arrays.copyOf(nested(21), 15 + 19 * 13)), "3 at " + (15 + 19 * 13));
        byte[] most = many(249);
        Due.is("250 in all", faultOf(most), "none");
        Due.is("251 in all", faultOf(many(250)), "3 at " + (15 + 249 * 13));
        Due.is("251 in all, ending there", faultOf(with(most, 14, 250)), "3 at " + (15 + 249 * 13));
        Due.is("ending before the 250th", faultOf(Arrays.copyOf(most, 15 + 248 * 13)), "1 at " + (15 + 248 * 13));
    }

    private static byte[] many(int inside) {
        StringBuilder text = new StringBuilder("main 2\n RETURN 0 1\n");
        for (int i = 0; i < inside; i++) {
            text.append("function f").append(i).append(" 0 0 2\n RETURN 0 1\n end\n");
        }
        return Assembler.chunk(text.toString());
    }

    private static byte[] withConstants(int constants, int kind, int behind) {
        byte[] bytes = new byte[8 + constants + behind];
        byte[] head = {0, 1, 2, 1, 1, 0, (byte) (constants >> 8), (byte) constants};
        System.arraycopy(head, 0, bytes, 0, 8);
        Arrays.fill(bytes, 8, 8 + constants, (byte) kind);
        return bytes;
    }

    private static void tellsTooManyParts() {
        byte[] bytes = withConstants(20_000, 0, 7);
        bytes[20_009] = 1;
        bytes[20_013] = 38;
        Due.is("an instruction behind 20,000 constants", faultOf(bytes), "4 at 20010");
        Due.is("half of it", faultOf(Arrays.copyOf(bytes, 20_013)), "1 at 20010");
        Due.is("one constant more", faultOf(withConstants(20_001, 0, 0)), "4 at 20008");
        Due.is("one that is not there", faultOf(Arrays.copyOf(withConstants(20_001, 0, 0), 20_008)), "1 at 20008");
        byte[] fits = withConstants(19_999, 0, 7);
        fits[20_008] = 1;
        fits[20_010] = (byte) 0x80;
        fits[20_012] = 38;
        Due.is("20,000 in all", faultOf(fits), "none");
    }

    private static void tellsBytesBehind() {
        byte[] bytes = Assembler.chunk(PLAIN);
        Due.is("one byte behind", faultOf(Arrays.copyOf(bytes, 56)), "5 at 55");
        Due.is("many bytes behind", faultOf(Arrays.copyOf(bytes, 80)), "5 at 55");
        byte[] illFormed = Arrays.copyOf(with(bytes, 28, 63), 56);
        Due.is("bytes behind go before what is not well formed", faultOf(illFormed), "5 at 55");
        Due.is("not well formed", faultOf(with(bytes, 28, 63)), "6 at 25");
    }

    private static void tellsTheLastLoad() {
        Play play = new Play();
        Due.isThrown("load of nothing", () -> play.x.load(), UnsupportedOperationException.class);
        Due.is("its fault", play.x.fault(0), 1);
        Due.is("its place", play.x.fault(1), 0);
        play.put(Assembler.chunk(PLAIN));
        Due.is("the fault stays until a load", play.x.fault(0), 1);
        play.x.load();
        Due.is("the fault behind a load", play.x.fault(0), 0);
        Due.is("its place", play.x.fault(1), -1);
    }
}
