/** Promises 8 and 9: set and value. */
public final class SetTest {
    private static final Class<IllegalArgumentException> ARGUMENT = IllegalArgumentException.class;
    private static final Class<UnsupportedOperationException> CUT = UnsupportedOperationException.class;

    public static void main(String[] args) {
        Due due = new Due();
        beforeBegin(due);
        wrongVariables(due);
        marksOnlyWhenOther(due);
        marksEveryLevel(due);
        marksSuspendedAndAvailable(due);
        cutOff(due);
        afterTheEnd(due);
        due.end();
    }

    private static void beforeBegin(Due due) {
        CaseDesk desk = new CaseDesk();
        int[] numbers = {Integer.MIN_VALUE, -1, 1, Integer.MAX_VALUE};
        for (int v = 0; v < 4; v++) {
            due.is("set before begin", desk.set(v, numbers[v]), 0);
        }
        for (int v = 0; v < 4; v++) {
            due.is("value(" + v + ")", desk.value(v), numbers[v]);
        }
        due.is("instances()", desk.instances(), 0);
        desk.begin(3);
        due.is("value(3) after begin", desk.value(3), Integer.MAX_VALUE);
    }

    private static void wrongVariables(Due due) {
        CaseDesk desk = new CaseDesk();
        desk.item(1, 0, 0);
        for (int phase = 0; phase < 2; phase++) {
            for (int v : new int[] {-1, 4, 100, Integer.MIN_VALUE, Integer.MAX_VALUE}) {
                due.failsAndKeeps("set(" + v + ")", ARGUMENT, desk, () -> desk.set(v, 1));
                due.is("value(" + v + ")", desk.value(v), 0);
            }
            if (phase == 0) {
                desk.begin(10);
            }
        }
    }

    private static void marksOnlyWhenOther(Due due) {
        CaseDesk desk = new CaseDesk();
        desk.item(1, 0, 0);
        desk.item(3, 0, 0);
        desk.on(desk.sentry(1, false), 101, 4);
        desk.set(1, 5);
        desk.begin(10);
        due.is("the number that it has", desk.set(1, 5), 0);
        due.is("marks nothing", desk.marked(1, 0, 0), false);
        due.is("another variable", desk.set(0, 5), 0);
        due.is("marks nothing here", desk.marked(1, 0, 0), false);
        due.is("another number", desk.set(1, 6), 1);
        due.is("marks", desk.marked(1, 0, 0), true);
        due.is("the task started", desk.instance(1, 2), 2);
    }

    /** A variable is heard at every depth, not only beside each other. */
    private static void marksEveryLevel(Due due) {
        CaseDesk desk = new CaseDesk();
        desk.item(0, 0, 0);
        desk.item(1, 1, 0);
        desk.item(1, 0, 0);
        desk.on(desk.sentry(2, true), 103, 0);
        desk.on(desk.sentry(3, true), 103, 0);
        desk.begin(20);
        due.is("both tasks leave, stage and case complete", desk.set(3, -1), 4);
        int[] instances = {0, 1, 3, 2};
        int[] moves = {4, 4, 9, 9};
        for (int k = 0; k < 4; k++) {
            due.is("instance of the move " + k + " back", desk.history(k, 0), instances[k]);
            due.is("the move " + k + " back", desk.history(k, 1), moves[k]);
        }
    }

    /** What can't move now is marked all the same, and moves once it can. */
    private static void marksSuspendedAndAvailable(Due due) {
        CaseDesk desk = new CaseDesk();
        desk.item(1, 0, 0);
        desk.item(2, 0, 0);
        desk.item(1, 0, 0);
        desk.on(desk.sentry(1, true), 100, 0);
        desk.on(desk.sentry(2, false), 100, 0);
        desk.begin(20);
        desk.move(0, 5);
        due.is("set while the case is SUSPENDED", desk.set(0, 1), 0);
        due.is("the SUSPENDED task is marked", desk.marked(1, 0, 0), true);
        due.is("the AVAILABLE milestone is marked", desk.marked(2, 1, 0), true);
        due.is("RESUME of the case and two tasks, EXIT, OCCUR", desk.move(0, 6), 5);
        due.is("the task left", desk.instance(1, 2), 5);
        due.is("the milestone occurred", desk.instance(2, 2), 4);
    }

    private static void cutOff(Due due) {
        CaseDesk desk = new CaseDesk();
        desk.item(1, 0, 1);
        desk.item(1, 0, 0);
        desk.when(desk.sentry(1, false), 0, 2, 0);
        desk.on(desk.sentry(2, true), 100, 0);
        desk.begin(10);
        due.failsAndKeeps("a repeating task that is let in again and again", CUT, desk, () -> desk.set(0, 1));
        due.is("value(0)", desk.value(0), 0);
        due.is("the exit isn't marked", desk.marked(2, 1, 0), false);
        due.is("a number that lets none in", desk.set(0, -1), 1);
        due.is("value(0) then", desk.value(0), -1);
    }

    private static void afterTheEnd(Due due) {
        CaseDesk desk = new CaseDesk();
        desk.item(1, 0, 0);
        desk.on(desk.sentry(1, true), 100, 0);
        desk.begin(10);
        desk.move(0, 9);
        due.is("set when all is over", desk.set(0, 77), 0);
        due.is("value(0)", desk.value(0), 77);
        due.is("no final instance is marked", desk.marked(1, 0, 0), false);
    }
}
