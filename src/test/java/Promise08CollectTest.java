/** Promise 8: collect; CollectionTest has what is reached. */
public final class Promise08CollectTest {
    public static void main(String[] args) {
        Due.by("IllegalStateException: there is no CHUNK.");
        LuaMachine none = new LuaMachine();
        Due.isThrown("collect without a chunk", () -> none.collect(), IllegalStateException.class);
        Due.by("COLLECTION, between two STEPS: EXISTING.");
        Play play = Play.of("main 3\n NEWTABLE 0\n NEWTABLE 1\n SETTABLE 0 #1 1\n LOADNIL 1 0\n LOADNIL 0 0\n RETURN 0 1");
        Due.is("collect before the first step", play.x.collect(), 60);
        play.x.run(3);
        Due.is("both tables are reached", play.x.collect(), 62);
        play.x.run(1);
        Due.is("one through the other", play.x.collect(), 62);
        Due.is("rooms", play.x.count(6), 36);
        play.x.run(1);
        Due.is("none is reached", play.x.collect(), 60);
        Due.is("rooms", play.x.count(6), 32);
        Due.is("collections", play.x.count(5), 4);
        Due.is("made", play.x.count(4), 62);
        play.x.run(1);
        Due.is("behind the end closure and variable go", play.x.collect(), 58);
        Due.is("existing", play.x.count(3), 58);
        Due.end();
    }
}
