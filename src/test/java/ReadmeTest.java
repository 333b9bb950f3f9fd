/** The example of README.md: its calls, with the answers that it tells. */
public final class ReadmeTest {
    private static final Class<UnsupportedOperationException> CUT = UnsupportedOperationException.class;

    public static void main(String[] args) {
        Due due = new Due();
        example(due);
        cutOff(due);
        due.end();
    }

    private static void example(Due due) {
        CaseDesk desk = new CaseDesk();
        int review = desk.item(1, 0, 0);
        int approved = desk.item(2, 0, 0);
        int entry = desk.sentry(approved, false);
        due.is("on", desk.on(entry, review, 4), 1);
        desk.when(entry, 0, 2, 5);
        due.is("begin", desk.begin(20), 5);
        due.is("move", desk.move(1, 4), 1);
        due.is("marked", desk.marked(2, entry, 0), true);
        due.is("set", desk.set(0, 6), 2);
        due.is("instance", desk.instance(0, 2), 4);
        due.is("history of the instance", desk.history(1, 0), 2);
        due.is("history of the move", desk.history(1, 1), 3);
    }

    private static void cutOff(Due due) {
        CaseDesk desk = new CaseDesk();
        desk.item(1, 0, 0);
        due.failsAndKeeps("begin(3)", CUT, desk, () -> desk.begin(3));
        due.is("instances", desk.instances(), 0);
        due.is("begin(4)", desk.begin(4), 4);
    }
}
