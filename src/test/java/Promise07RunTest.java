/** Promise 7: run. */
public final class Promise07RunTest {
    public static void main(String[] args) {
        refusesOtherNumbers();
        goesOnStepByStep();
        tellsTheEnd();
        countsStepsOfAllFramesAndCoroutines();
        Due.end();
    }

    private static void refusesOtherNumbers() {
        Due.by("At most n STEPS, 1 .. 100,000, go on");
        Play play = Play.of("main 2\n JMP 0 -1");
        for (int n : new int[] {0, -1, 100_001, Integer.MAX_VALUE, Integer.MIN_VALUE}) {
            Due.isThrown("run(" + n + ")", () -> play.x.run(n), IllegalArgumentException.class);
        }
        Due.is("run(100000)", play.x.run(100_000), 0);
        Due.is("steps", play.x.count(2), 100_000);
        Due.is("run(1)", play.x.run(1), 0);
        Due.is("steps", play.x.count(2), 100_001);
        Due.by("IllegalStateException: there is no CHUNK.");
        Due.isThrown("run without a chunk", () -> new LuaMachine().run(100_000), IllegalStateException.class);
    }

    private static void goesOnStepByStep() {
        Due.by("0 there are more to go, 1 the main coroutine has given back its results");
        Play play = Play.of("main 2\n LOADK 0 #1\n ADD 0 0 0\n ADD 0 0 0\n RETURN 0 2");
        Due.is("run(1)", play.x.run(1), 0);
        Due.is("run(2)", play.x.run(2), 0);
        Due.is("steps", play.x.count(2), 3);
        Due.is("run(1) to the end", play.x.run(1), 1);
        Due.is("steps", play.x.count(2), 4);
        Due.is("result", play.results(), "4");
    }

    private static void tellsTheEnd() {
        Due.by("2 it ended by an ERROR (1 and 2 also if that was before)");
        Play play = Play.of("main 2\n LOADK 0 #1\n RETURN 0 2");
        Due.is("run", play.x.run(100), 1);
        Due.is("run behind the end", play.x.run(100), 1);
        Due.is("steps", play.x.count(2), 2);
        Play wrong = Play.of("main 2\n LOADK 0 #1\n ADD 0 0 'a'\n RETURN 0 2");
        Due.is("run", wrong.x.run(1), 0);
        Due.is("run into an error", wrong.x.run(1), 2);
        Due.is("run behind an error", wrong.x.run(5), 2);
        Due.is("steps", wrong.x.count(2), 2);
        Due.is("error", wrong.results(), "3");
    }

    private static void countsStepsOfAllFramesAndCoroutines() {
        Due.by("STEP: one instruction. Built in functions take none.");
        String program = "main 4\n GLOBAL 0 'wrap'\n CLOSURE 1 f\n CALL 0 2 2\n MOVE 1 0\n CALL 1 1 1\n CALL 0 1 2\n RETURN 0 2\n"
            + "function f 0 0 3 u0\n GLOBAL 0 'yield'\n CALL 0 1 1\n LOADK 0 #8\n RETURN 0 2\n end";
        Play play = Play.of(program);
        for (int i = 1; i <= 10; i++) {
            Due.is("run(1) number " + i, play.x.run(1), 0);
            Due.is("steps", play.x.count(2), i);
        }
        Due.is("the last", play.x.run(1), 1);
        Due.is("result", play.results(), "8");
        Due.is("all at once", Play.of(program).x.run(11), 1);
    }
}
