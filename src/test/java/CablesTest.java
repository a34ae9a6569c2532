/** Promises 1 to 5: a new object; CABLES that come, go, break; SOCKETS that are turned. */
public final class CablesTest {
    private static final Check CHECK = new Check();

    public static void main(String[] args) {
        newObject();
        CHECK.finish();
    }

    private static void newObject() {
        SpaceLinks x = new SpaceLinks();
        CHECK.due("look(1)", 0, x.look(1));
        CHECK.due("look(4)", 20, x.look(4));
    }
}
