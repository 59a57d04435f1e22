import java.lang.management.ManagementFactory;

/** Running takes no new memory of Java's, but for what the program makes: errors, calls and coroutines are free. */
public final class RoomTest {
    private static final long FEW_BYTES = 1_000_000;

    public static void main(String[] args) {
        Due.by("All memory is the machine's own.");
        isFree("errors", "main 8\n CLOSURE 0 f\nagain:\n GLOBAL 1 'pcall'\n MOVE 2 0\n CALL 1 2 1\n JMP 0 >again\n function f 0 0 3 u0\n ADD 0 0 0\n RETURN 0 1\n end");
        isFree("coroutines", "main 8\n GLOBAL 0 'wrap'\n CLOSURE 1 f\n CALL 0 2 2\nagain:\n MOVE 1 0\n LOADK 2 #1\n CALL 1 2 1\n JMP 0 >again\n"
            + "function f 0 1 4 u0\nagain:\n GLOBAL 0 'yield'\n VARARG 1 0\n CALL 0 0 1\n JMP 0 >again\n end");
        isFree("collections", "main 8\nagain:\n GLOBAL 1 'collect'\n CALL 1 1 1\n JMP 0 >again");
        isFree("strings that exist", "main 8\nagain:\n LOADK 0 'a'\n LOADK 1 'b'\n CONCAT 2 0 1\n GLOBAL 3 'tostring'\n LOADK 4 #77\n CALL 3 2 2\n GLOBAL 4 'print'\n LOADNIL 5 0\n CALL 4 2 1\n JMP 0 >again");
        takesLittleWhenItIsMade();
        Due.end();
    }

    private static long allocated() {
        com.sun.management.ThreadMXBean threads = (com.sun.management.ThreadMXBean) ManagementFactory.getThreadMXBean();
        return threads.getThreadAllocatedBytes(Thread.currentThread().getId());
    }

    private static void isFree(String what, String program) {
        Play play = Play.of(program);
        play.x.run(100);
        long before = allocated();
        for (int i = 0; i < 10; i++) {
            play.x.run(100_000);
        }
        long bytes = allocated() - before;
        Due.is("bytes for a million steps of " + what, bytes < FEW_BYTES ? 0 : bytes, 0);
    }

    private static void takesLittleWhenItIsMade() {
        new LuaMachine();
        long before = allocated();
        new LuaMachine();
        long bytes = allocated() - before;
        Due.is("bytes of an object", bytes < 8 * FEW_BYTES ? 0 : bytes, 0);
    }
}
