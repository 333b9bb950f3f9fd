/** Promise 6: begin. */
public final class BeginTest {
    private static final Class<IllegalStateException> STATE = IllegalStateException.class;
    private static final Class<IllegalArgumentException> ARGUMENT = IllegalArgumentException.class;
    private static final Class<UnsupportedOperationException> CUT = UnsupportedOperationException.class;

    public static void main(String[] args) {
        Due due = new Due();
        wrongBounds(due);
        onlyOnce(due);
        countsMoves(due);
        cutOffHasNotBegun(due);
        boundCountsLater(due);
        fortyInstances(due);
        due.end();
    }

    private static void wrongBounds(Due due) {
        CaseDesk desk = new CaseDesk();
        desk.item(3, 0, 0);
        for (int bound : new int[] {1, 0, -1, 61, Integer.MIN_VALUE, Integer.MAX_VALUE}) {
            due.failsAndKeeps("bound " + bound, ARGUMENT, desk, () -> desk.begin(bound));
        }
        due.is("the greatest bound", desk.begin(60), 3);
    }

    private static void onlyOnce(Due due) {
        CaseDesk desk = new CaseDesk();
        desk.item(1, 0, 0);
        desk.begin(10);
        due.failsAndKeeps("begin again", STATE, desk, () -> desk.begin(10));
        due.failsAndKeeps("begin again with a wrong bound", STATE, desk, () -> desk.begin(1));
        desk.move(0, 9);
        due.failsAndKeeps("begin of a case that is over", STATE, desk, () -> desk.begin(10));
    }

    /** Stage 1 with a task in it, a manual task, a milestone: all that follows, then all that is worked off. */
    private static void countsMoves(Due due) {
        CaseDesk desk = new CaseDesk();
        desk.item(0, 0, 0);
        desk.item(1, 1, 0);
        desk.item(1, 0, 4);
        desk.item(2, 0, 0);
        due.is("begin", desk.begin(60), 10);
        int[][] expected = {{0, 0}, {0, 2}, {1, 0}, {2, 0}, {3, 0}, {1, 2}, {4, 0}, {2, 1}, {3, 3}, {4, 2}};
        due.is("moves()", desk.moves(), expected.length);
        for (int n = 0; n < expected.length; n++) {
            due.is("instance of move " + n, desk.history(9 - n, 0), expected[n][0]);
            due.is("move " + n, desk.history(9 - n, 1), expected[n][1]);
        }
        due.is("instance 0 is ACTIVE", desk.instance(0, 2), 2);
    }

    private static void cutOffHasNotBegun(Due due) {
        CaseDesk desk = new CaseDesk();
        desk.set(2, 9);
        due.failsAndKeeps("CREATE, START and COMPLETE are more than 2", CUT, desk, () -> desk.begin(2));
        due.is("instances()", desk.instances(), 0);
        due.is("moves()", desk.moves(), 0);
        due.is("value(2)", desk.value(2), 9);
        due.fails("move before the case has begun", java.util.NoSuchElementException.class,
                () -> desk.move(0, 9));
        due.is("an item can still be described", desk.item(1, 0, 0), 1);
        due.is("and a sentry", desk.sentry(1, false), 0);
        due.is("and an on-part", desk.on(0, 100, 0), 1);
        desk.when(0, 2, 1, 9);
        due.is("set before the case has begun marks nothing", desk.set(0, 1), 0);
        due.is("begin again", desk.begin(3), 3);
        due.is("the task waits", desk.instance(1, 2), 0);
        due.is("set after the case has begun", desk.set(0, 2), 1);
    }

    private static void boundCountsLater(Due due) {
        CaseDesk desk = new CaseDesk();
        for (int n = 0; n < 4; n++) {
            desk.item(3, 0, 0);
        }
        due.fails("six moves are more than 5", CUT, () -> desk.begin(5));
        CaseDesk six = new CaseDesk();
        for (int n = 0; n < 4; n++) {
            six.item(3, 0, 0);
        }
        six.item(1, 0, 0);
        six.on(six.sentry(5, false), 4, 3);
        due.fails("seven moves are more than 6", CUT, () -> six.begin(6));
        due.is("seven moves are 7", six.begin(7), 7);
        due.is("six moves of a later command", six.move(0, 9), 6);
    }

    /** A listener that comes again each time it occurs, until there are 40 instances. */
    private static void fortyInstances(Due due) {
        CaseDesk desk = new CaseDesk();
        desk.item(3, 0, 1);
        desk.begin(60);
        for (int n = 1; n < 39; n++) {
            due.is("the listener occurs and comes again", desk.move(n, 3), 2);
        }
        due.is("instances()", desk.instances(), 40);
        due.failsAndKeeps("a forty-first instance", CUT, desk, () -> desk.move(39, 3));
        due.is("can tells nothing of being cut off", desk.can(39, 3), true);
        due.is("the last one can still leave", desk.move(39, 9), 2);
        due.is("the case is over", desk.instance(0, 2), 4);
    }
}
