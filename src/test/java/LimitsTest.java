/** Desks with as much as the document allows: items, sentries, on-parts, instances, moves of a command. */
public final class LimitsTest {
    private static final Class<UnsupportedOperationException> CUT = UnsupportedOperationException.class;

    public static void main(String[] args) {
        Due due = new Due();
        allSentriesAndParts(due);
        sixtyMoves(due);
        fortyInstances(due);
        fortyFirstInstance(due);
        manyCutOffs(due);
        due.end();
    }

    /** Eleven tasks; sixteen exits with two parts each, the last two of them for the last task. */
    private static void allSentriesAndParts(Due due) {
        CaseDesk desk = new CaseDesk();
        for (int n = 1; n < 12; n++) {
            desk.item(1, 0, 0);
        }
        for (int s = 0; s < 16; s++) {
            int sentry = desk.sentry(s < 14 ? 1 + s % 10 : 11, true);
            desk.on(sentry, 100, 0);
            desk.on(sentry, s == 15 ? 10 : 101, 5);
        }
        due.is("begin", desk.begin(60), 24);
        due.is("the first part of every sentry", desk.set(0, 1), 0);
        due.is("the first part of sentry 15", desk.marked(11, 15, 0), true);
        due.is("its second part", desk.marked(11, 15, 1), false);
        due.is("SUSPEND of task 10, EXIT of task 11", desk.move(10, 5), 2);
        due.is("task 11 left", desk.instance(11, 2), 5);
        due.is("the second parts, EXIT of ten tasks, the case completes", desk.set(1, 1), 11);
    }

    /**
     * Four stages of seven tasks and one more: a number lets in the eight, then the last of them sends
     * the seven away. So a set that makes no move itself comes to sixty steps of one move.
     */
    private static CaseDesk fourStages(int bound) {
        CaseDesk desk = new CaseDesk();
        desk.item(0, 0, 1);
        desk.on(desk.sentry(1, false), 101, 0);
        for (int n = 2; n < 10; n++) {
            desk.item(1, 1, 0);
        }
        for (int n = 2; n < 9; n++) {
            desk.on(desk.sentry(n, true), 9, 2);
        }
        for (int n = 2; n < 10; n++) {
            desk.when(desk.sentry(n, false), 0, 2, 0);
        }
        desk.begin(bound);
        for (int n = 1; n < 5; n++) {
            desk.set(1, n);
        }
        return desk;
    }

    private static void sixtyMoves(Due due) {
        CaseDesk desk = fourStages(60);
        due.is("instances()", desk.instances(), 38);
        due.is("sixty moves", desk.set(0, 1), 60);
        due.is("moves()", desk.moves(), 3 + 4 * 10 + 60);
        CaseDesk less = fourStages(59);
        due.failsAndKeeps("sixty moves of 59", CUT, less, () -> less.set(0, 1));
    }

    private static CaseDesk listenersToForty() {
        CaseDesk desk = new CaseDesk();
        desk.item(3, 0, 1);
        desk.item(1, 0, 1);
        desk.on(desk.sentry(2, false), 100, 0);
        desk.begin(60);
        desk.set(0, 1);
        for (int n = 4; n < 40; n++) {
            desk.move(n == 4 ? 1 : n - 1, 3);
        }
        return desk;
    }

    private static void fortyInstances(Due due) {
        CaseDesk desk = listenersToForty();
        due.is("instances()", desk.instances(), 40);
        due.is("the last one's item", desk.instance(39, 0), 1);
        due.is("can of the last one", desk.can(39, 9), true);
        due.is("SUSPEND of the case and the task", desk.move(0, 5), 2);
        due.is("RESUME of the case and the task", desk.move(0, 6), 2);
        due.is("EXIT of the case, the tasks and the listener", desk.move(0, 9), 4);
        due.is("the last one left", desk.instance(39, 2), 5);
    }

    private static void fortyFirstInstance(Due due) {
        CaseDesk desk = listenersToForty();
        due.failsAndKeeps("a forty-first that follows", CUT, desk, () -> desk.move(39, 3));
        due.failsAndKeeps("a forty-first that is worked off", CUT, desk, () -> desk.set(0, 2));
        due.is("value(0)", desk.value(0), 1);
        due.is("a set that makes none", desk.set(1, 2), 0);
    }

    /** What a cut off command made is gone, marks too: a later one makes the instances anew. */
    private static void manyCutOffs(Due due) {
        CaseDesk desk = new CaseDesk();
        desk.item(1, 0, 1);
        desk.item(1, 0, 0);
        desk.item(2, 0, 1);
        desk.on(desk.sentry(1, false), 2, 7);
        desk.on(desk.sentry(1, true), 3, 3);
        desk.on(1, 103, 0);
        desk.when(desk.sentry(1, false), 0, 2, 5);
        desk.when(desk.sentry(3, false), 0, 2, 5);
        desk.begin(10);
        for (int n = 0; n < 100; n++) {
            due.failsAndKeeps("endless", CUT, desk, () -> desk.set(0, 6));
        }
        due.is("moves()", desk.moves(), 6);
        due.is("FAIL, CREATE, START", desk.move(2, 7), 3);
        due.is("the new one's moves", desk.instance(4, 3), 1);
        due.is("the new one's state", desk.instance(4, 2), 0);
        due.is("the new one isn't marked", desk.marked(4, 1, 0), false);
    }
}
