/** A machine with a program on it, and its answers as text. */
final class Play {
    final LuaMachine x = new LuaMachine();

    static Play of(String program) {
        Play play = new Play();
        play.put(Assembler.chunk(program));
        play.x.load();
        return play;
    }

    /** Results or error of a program that is run to its end. */
    static String answer(String program) {
        return of(program).finish();
    }

    /** A program that is run to its end is to answer this. */
    static void due(String program, String want) {
        Due.is(program.replace('\n', ';'), answer(program), want);
    }

    /** What load finds wrong with these bytes, and where. */
    static String faultOf(byte[] bytes) {
        Play play = new Play();
        play.put(bytes);
        try {
            play.x.load();
        } catch (UnsupportedOperationException e) {
            return play.x.fault(0) + " at " + play.x.fault(1);
        }
        return "none";
    }

    /** The bytes with one of them changed. */
    static byte[] with(byte[] bytes, int at, int value) {
        byte[] changed = bytes.clone();
        changed[at] = (byte) value;
        return changed;
    }

    void put(byte[] bytes) {
        int start = x.count(0);
        for (int i = 0; i < bytes.length; i += 20) {
            x.feed(word(bytes, i), word(bytes, i + 4), word(bytes, i + 8), word(bytes, i + 12), word(bytes, i + 16));
        }
        x.end(start + bytes.length);
    }

    private static int word(byte[] bytes, int at) {
        int word = 0;
        for (int i = at; i < at + 4; i++) {
            word = word << 8 | (i < bytes.length ? bytes[i] & 255 : 0);
        }
        return word;
    }

    String finish() {
        int ended = 0;
        for (int i = 0; i < 50 && ended == 0; i++) {
            ended = x.run(100_000);
        }
        return (ended == 1 ? "" : ended == 2 ? "error " : "running ") + results();
    }

    String results() {
        StringBuilder text = new StringBuilder();
        for (int k = 0; k < x.count(10); k++) {
            text.append(k > 0 ? " " : "").append(result(k));
        }
        return text.toString();
    }

    private String result(int k) {
        switch (x.kind(k)) {
            case 0: return "nil";
            case 1: return "false";
            case 2: return "true";
            case 3: return Long.toString(x.value(k));
            case 4: return "'" + string(k) + "'";
            case 5: return "table:" + x.value(k);
            case 6: return "function:" + x.value(k);
            default: return "coroutine:" + x.value(k);
        }
    }

    private String string(int k) {
        StringBuilder text = new StringBuilder();
        for (int i = 0; i < x.value(k); i++) {
            text.append((char) x.byteOf(k, i));
        }
        return text.toString();
    }

    String printed() {
        StringBuilder text = new StringBuilder();
        for (int i = 0; i < x.count(1); i++) {
            text.append((char) x.output(i));
        }
        return text.toString();
    }

    /** All that count tells, from one number to another. */
    String counts(int from, int to) {
        StringBuilder text = new StringBuilder();
        for (int what = from; what <= to; what++) {
            text.append(what > from ? " " : "").append(x.count(what));
        }
        return text.toString();
    }
}
