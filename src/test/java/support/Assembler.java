import java.io.ByteArrayOutputStream;
import java.util.ArrayList;
import java.util.HashMap;
import java.util.List;
import java.util.Map;

/**
 * Puts a chunk together from lines of text.
 *
 * <pre>
 * main M                      the outermost prototype; M registers
 * function NAME P V M UP..    a prototype inside: parameters, takes more arguments, registers, upvalues (r2, u0)
 * end                         of a function
 * NAME:                       a place to jump to
 * ADD 0 1 #5                  an instruction; its fields A, B, C as far as they say something
 * </pre>
 *
 * Constants: #5 an integer, 'a' a string, nil, false, true. Where registers or constants may stand a constant is
 * K. Jumps name their place: JMP 0 >NAME. GLOBAL 0 'print' and SETGLOBAL 'x' 0 go through upvalue 0. RAW n is a number.
 */
final class Assembler {
    private static final String[] OPERATIONS = {
        "0 MOVE AB", "1 LOADK Ax", "3 LOADBOOL ABC", "4 LOADNIL AB", "5 GETUPVAL AB", "6 GETTABUP ABC", "7 GETTABLE ABC",
        "8 SETTABUP ABC", "9 SETUPVAL AB", "10 SETTABLE ABC", "11 NEWTABLE A", "12 SELF ABC", "13 ADD ABC", "14 SUB ABC",
        "15 MUL ABC", "16 MOD ABC", "19 IDIV ABC", "20 BAND ABC", "21 BOR ABC", "22 BXOR ABC", "23 SHL ABC", "24 SHR ABC",
        "25 UNM AB", "26 BNOT AB", "27 NOT AB", "28 LEN AB", "29 CONCAT ABC", "30 JMP Aj", "31 EQ ABC", "32 LT ABC",
        "33 LE ABC", "34 TEST AC", "35 TESTSET ABC", "36 CALL ABC", "37 TAILCALL AB", "38 RETURN AB", "39 FORLOOP Aj",
        "40 FORPREP Aj", "41 TFORCALL AC", "42 TFORLOOP Aj", "43 SETLIST ABC", "44 CLOSURE Af", "45 VARARG AB"};

    private final Assembler around;
    private final String name;
    private final int[] head = new int[3];
    private final List<int[]> upvalues = new ArrayList<>();
    private final List<String> constants = new ArrayList<>();
    private final List<String> lines = new ArrayList<>();
    private final Map<String, Integer> places = new HashMap<>();
    private final List<Assembler> inside = new ArrayList<>();

    private Assembler(Assembler around, String name) {
        this.around = around;
        this.name = name;
    }

    static byte[] chunk(String text) {
        Assembler here = null;
        Assembler outermost = null;
        for (String line : text.split("\n")) {
            String[] words = line.trim().split("\\s+");
            if (words[0].equals("main")) {
                here = new Assembler(null, "main");
                here.setHead(0, 1, Integer.parseInt(words[1]));
                here.upvalues.add(new int[] {1, 0});
                outermost = here;
            } else if (words[0].equals("function")) {
                Assembler made = new Assembler(here, words[1]);
                made.setHead(Integer.parseInt(words[2]), Integer.parseInt(words[3]), Integer.parseInt(words[4]));
                for (int i = 5; i < words.length; i++) {
                    made.upvalues.add(new int[] {words[i].charAt(0) == 'r' ? 1 : 0, Integer.parseInt(words[i].substring(1))});
                }
                here.inside.add(made);
                here = made;
            } else if (words[0].equals("end")) {
                here = here.around;
            } else if (words[0].endsWith(":")) {
                here.places.put(words[0].substring(0, words[0].length() - 1), here.lines.size());
            } else if (!words[0].isEmpty()) {
                here.lines.add(line.trim());
            }
        }
        ByteArrayOutputStream out = new ByteArrayOutputStream();
        outermost.write(out);
        return out.toByteArray();
    }

    private void setHead(int parameters, int more, int registers) {
        head[0] = parameters;
        head[1] = more;
        head[2] = registers;
    }

    private void write(ByteArrayOutputStream out) {
        List<Integer> code = new ArrayList<>();
        for (int i = 0; i < lines.size(); i++) {
            code.add(instruction(lines.get(i), i));
        }
        out.write(head[0]);
        out.write(head[1]);
        out.write(head[2]);
        out.write(upvalues.size());
        for (int[] upvalue : upvalues) {
            out.write(upvalue[0]);
            out.write(upvalue[1]);
        }
        number(out, constants.size(), 2);
        for (String constant : constants) {
            writeConstant(out, constant);
        }
        number(out, code.size(), 2);
        for (int instruction : code) {
            number(out, instruction, 4);
        }
        out.write(inside.size());
        for (Assembler function : inside) {
            function.write(out);
        }
    }

    private static void number(ByteArrayOutputStream out, long number, int bytes) {
        for (int i = bytes - 1; i >= 0; i--) {
            out.write((int) (number >> 8 * i));
        }
    }

    private static void writeConstant(ByteArrayOutputStream out, String constant) {
        switch (constant.charAt(0)) {
            case 'n': out.write(0); break;
            case 'f': out.write(1); break;
            case 't': out.write(2); break;
            case '#':
                out.write(3);
                number(out, Long.parseLong(constant.substring(1)), 8);
                break;
            default:
                out.write(4);
                number(out, constant.length() - 2, 2);
                for (int i = 1; i < constant.length() - 1; i++) {
                    out.write(constant.charAt(i));
                }
                break;
        }
    }

    private int instruction(String line, int at) {
        String[] words = line.split("\\s+");
        if (words[0].equals("RAW")) {
            return (int) Long.parseLong(words[1]);
        }
        if (words[0].equals("GLOBAL")) {
            return instruction("GETTABUP " + words[1] + " 0 " + words[2], at);
        }
        if (words[0].equals("SETGLOBAL")) {
            return instruction("SETTABUP 0 " + words[1] + " " + words[2], at);
        }
        for (String operation : OPERATIONS) {
            String[] parts = operation.split(" ");
            if (parts[1].equals(words[0])) {
                int instruction = Integer.parseInt(parts[0]);
                for (int i = 0; i < parts[2].length(); i++) {
                    instruction |= field(parts[2].charAt(i), words[i + 1], at);
                }
                return instruction;
            }
        }
        throw new IllegalArgumentException(line);
    }

    private int field(char which, String word, int at) {
        switch (which) {
            case 'A': return Integer.parseInt(word) << 6;
            case 'B': return registerOrConstant(word) << 23;
            case 'C': return registerOrConstant(word) << 14;
            case 'x': return constant(word) << 14;
            case 'j': return target(word, at) + 131_071 << 14;
            default: return functionNamed(word) << 14;
        }
    }

    private int target(String word, int at) {
        return word.charAt(0) == '>' ? places.get(word.substring(1)) - at - 1 : Integer.parseInt(word);
    }

    private int registerOrConstant(String word) {
        return Character.isDigit(word.charAt(0)) ? Integer.parseInt(word) : 256 + constant(word);
    }

    private int constant(String word) {
        if (Character.isDigit(word.charAt(0))) {
            return Integer.parseInt(word);
        }
        if (!constants.contains(word)) {
            constants.add(word);
        }
        return constants.indexOf(word);
    }

    private int functionNamed(String word) {
        for (int i = 0; i < inside.size(); i++) {
            if (inside.get(i).name.equals(word)) {
                return i;
            }
        }
        return Integer.parseInt(word);
    }
}
