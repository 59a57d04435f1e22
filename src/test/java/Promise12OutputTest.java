/** Promise 12: output, and what "print" writes. */
public final class Promise12OutputTest {
    public static void main(String[] args) {
        printsEachKind();
        asksForNoMetamethodAndMakesNothing();
        keepsTheFirstBytes();
        Due.end();
    }

    private static void printsEachKind() {
        Due.by("in the GLOBALS, a table that is the value of the outermost's upvalue, by name: \"print\": each argument as \"tostring\" would give it (but nothing is made, no metamethod asked for), a tab between, a line feed behind, to the OUTPUT.");
        Play play = Play.of("main 12\n GLOBAL 0 'print'\n LOADNIL 1 0\n LOADBOOL 2 0 0\n LOADBOOL 3 1 0\n LOADK 4 #-12\n LOADK 5 'x\u00fe'\n GETUPVAL 6 0\n"
            + "GLOBAL 7 'type'\n CLOSURE 8 f\n GLOBAL 9 'running'\n CALL 9 1 2\n CALL 0 10 1\n GLOBAL 0 'print'\n CALL 0 1 1\n GLOBAL 0 'print'\n"
            + "LOADK 1 #-9223372036854775808\n LOADK 2 #0\n CALL 0 3 2\n RETURN 0 2\n function f 0 0 2\n RETURN 0 1\n end");
        Due.isThrown("output before the first step", () -> play.x.output(0), IndexOutOfBoundsException.class);
        Due.is("what print gives", play.finish(), "nil");
        String want = "nil\tfalse\ttrue\t-12\tx\u00fe\ttable: 0\tbuiltin: 2\tfunction: 61\tthread: 60\n\n-9223372036854775808\t0\n";
        Due.is("output", play.printed(), want);
        Due.by("Byte i of the OUTPUT");
        Due.is("a byte above 127", play.x.output(want.indexOf('\u00fe')), 254);
        Due.isThrown("output(-1)", () -> play.x.output(-1), IndexOutOfBoundsException.class);
        Due.isThrown("output behind the end", () -> play.x.output(want.length()), IndexOutOfBoundsException.class);
        play.put(Assembler.chunk("main 2\n RETURN 0 1"));
        play.x.load();
        Due.isThrown("output behind a load", () -> play.x.output(0), IndexOutOfBoundsException.class);
    }

    private static void asksForNoMetamethodAndMakesNothing() {
        Due.by("(but nothing is made, no metamethod asked for)");
        Play play = Play.of("main 5\n NEWTABLE 0\n GLOBAL 1 'type'\n SETTABLE 0 '__tostring' 1\n GLOBAL 1 'setmetatable'\n MOVE 2 0\n MOVE 3 0\n CALL 1 3 1\n"
            + "GLOBAL 1 'print'\n MOVE 2 0\n LOADK 3 #77\n CALL 1 3 1\n RETURN 0 1");
        play.finish();
        Due.is("output", play.printed(), "table: 60\t77\n");
        Due.is("made", play.x.count(4), 61);
    }

    /** 66 times 303 bytes and 2 more fit. */
    private static void keepsTheFirstBytes() {
        Due.by("(of which more than 20,000 are not kept)");
        StringBuilder name = new StringBuilder();
        for (int i = 0; i < 302; i++) {
            name.append((char) ('a' + i % 26));
        }
        Play play = Play.of("main 6\n LOADK 0 #1\n LOADK 1 #100\n LOADK 2 #1\n FORPREP 0 >next\nbody:\n GLOBAL 4 'print'\n LOADK 5 '" + name + "'\n CALL 4 2 1\n"
            + "next:\n FORLOOP 0 >body\n RETURN 0 1");
        play.finish();
        Due.is("bytes that are kept", play.x.count(1), 20_000);
        Due.is("the last one", play.x.output(19_999), 'b');
        Due.isThrown("one more", () -> play.x.output(20_000), IndexOutOfBoundsException.class);
        Due.isThrown("the last there could be", () -> play.x.output(Integer.MAX_VALUE), IndexOutOfBoundsException.class);
    }
}
