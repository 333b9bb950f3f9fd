import java.util.NoSuchElementException;

/** Promise 7: move, and with it promise 13: can. */
public final class MoveTest {
    private static final Class<IllegalStateException> STATE = IllegalStateException.class;
    private static final Class<IllegalArgumentException> ARGUMENT = IllegalArgumentException.class;
    private static final Class<NoSuchElementException> ELEMENT = NoSuchElementException.class;
    private static final Class<UnsupportedOperationException> CUT = UnsupportedOperationException.class;

    public static void main(String[] args) {
        Due due = new Due();
        noSuchInstance(due);
        noSuchMove(due);
        statesOfATask(due);
        statesOfAStage(due);
        statesOfMilestonesAndListeners(due);
        theCase(due);
        settledStage(due);
        parentMustBeActive(due);
        cutOff(due);
        due.end();
    }

    private static void noSuchInstance(Due due) {
        CaseDesk desk = new CaseDesk();
        desk.item(1, 0, 0);
        due.failsAndKeeps("before begin", ELEMENT, desk, () -> desk.move(0, 9));
        due.failsAndKeeps("before begin, with a wrong move", ELEMENT, desk, () -> desk.move(0, 77));
        due.is("can before begin", desk.can(0, 9), false);
        desk.begin(10);
        for (int k : new int[] {-1, 2, 39, 40, Integer.MIN_VALUE, Integer.MAX_VALUE}) {
            due.failsAndKeeps("instance " + k, ELEMENT, desk, () -> desk.move(k, 9));
            due.failsAndKeeps("instance " + k + ", wrong move", ELEMENT, desk, () -> desk.move(k, -1));
            due.is("can of instance " + k, desk.can(k, 9), false);
        }
    }

    private static void noSuchMove(Due due) {
        CaseDesk desk = new CaseDesk();
        desk.item(1, 0, 0);
        desk.begin(10);
        for (int m : new int[] {-1, 0, 1, 10, Integer.MIN_VALUE, Integer.MAX_VALUE}) {
            due.failsAndKeeps("move " + m, ARGUMENT, desk, () -> desk.move(1, m));
            due.is("can move " + m, desk.can(1, m), false);
        }
        desk.move(1, 4);
        due.fails("a wrong move of one that is final", ARGUMENT, () -> desk.move(1, 1));
    }

    /** Just these moves of the instance can be made; each other one is refused. */
    private static void can(Due due, String what, CaseDesk desk, int k, String moves) {
        StringBuilder got = new StringBuilder();
        for (int move = 0; move < 10; move++) {
            int m = move;
            if (desk.can(k, m)) {
                got.append(m);
            } else {
                due.failsAndKeeps(what + ", move " + m, m < 2 ? ARGUMENT : STATE, desk, () -> desk.move(k, m));
            }
        }
        due.same("what one can do that is " + what, got.toString(), moves);
    }

    private static void statesOfATask(Due due) {
        CaseDesk desk = new CaseDesk();
        desk.item(1, 0, 5);
        desk.item(1, 0, 0);
        desk.item(3, 0, 0);
        desk.on(desk.sentry(2, false), 100, 0);
        desk.begin(20);
        can(due, "an AVAILABLE task", desk, 2, "9");
        can(due, "an ENABLED task", desk, 1, "29");
        due.is("START", desk.move(1, 2), 1);
        can(due, "an ACTIVE task", desk, 1, "4579");
        due.is("SUSPEND", desk.move(1, 5), 1);
        can(due, "a SUSPENDED task", desk, 1, "69");
        due.is("RESUME", desk.move(1, 6), 1);
        due.is("FAIL", desk.move(1, 7), 1);
        can(due, "a FAILED task", desk, 1, "89");
        due.is("RETRY", desk.move(1, 8), 1);
        due.is("it is ACTIVE again", desk.instance(1, 2), 2);
        due.is("COMPLETE, and the next one is created and ENABLED", desk.move(1, 4), 3);
        can(due, "a COMPLETED task", desk, 1, "");
        due.is("EXIT of an ENABLED task", desk.move(4, 9), 1);
        can(due, "a TERMINATED task", desk, 4, "");
        due.is("one that left is not repeated", desk.instances(), 5);
        due.is("EXIT of an AVAILABLE task", desk.move(2, 9), 1);
    }

    private static void statesOfAStage(Due due) {
        CaseDesk desk = new CaseDesk();
        desk.item(0, 0, 4);
        desk.item(0, 0, 0);
        desk.item(3, 1, 0);
        desk.item(3, 0, 0);
        desk.on(desk.sentry(2, false), 100, 0);
        desk.begin(20);
        can(due, "an AVAILABLE stage", desk, 2, "9");
        can(due, "an ENABLED stage", desk, 1, "29");
        due.is("START with what is in it", desk.move(1, 2), 2);
        can(due, "an ACTIVE stage", desk, 1, "459");
        due.is("SUSPEND", desk.move(1, 5), 1);
        can(due, "a SUSPENDED stage", desk, 1, "69");
        due.is("RESUME", desk.move(1, 6), 1);
        due.is("COMPLETE of a settled one with what is in it", desk.move(1, 4), 2);
        can(due, "a COMPLETED stage", desk, 1, "");
        due.is("what was in it has left", desk.instance(4, 2), 5);
    }

    private static void statesOfMilestonesAndListeners(Due due) {
        CaseDesk desk = new CaseDesk();
        desk.item(2, 0, 4);
        desk.item(2, 0, 0);
        desk.item(3, 0, 4);
        desk.item(3, 0, 0);
        desk.item(3, 0, 0);
        desk.on(desk.sentry(2, false), 100, 0);
        desk.begin(20);
        can(due, "a milestone that has occurred", desk, 1, "");
        can(due, "an AVAILABLE milestone", desk, 2, "9");
        can(due, "an AVAILABLE listener", desk, 3, "39");
        due.is("OCCUR", desk.move(3, 3), 1);
        can(due, "a listener that has occurred", desk, 3, "");
        due.is("a listener leaves", desk.move(4, 9), 1);
        can(due, "a listener that has left", desk, 4, "");
        due.is("a milestone leaves", desk.move(2, 9), 1);
        due.is("its state", desk.instance(2, 2), 5);
    }

    private static void theCase(Due due) {
        CaseDesk desk = new CaseDesk();
        desk.item(3, 0, 0);
        desk.begin(20);
        can(due, "the ACTIVE case", desk, 0, "459");
        desk.move(0, 5);
        can(due, "the SUSPENDED case", desk, 0, "69");
        can(due, "a listener in it", desk, 1, "");
        desk.move(0, 6);
        due.is("COMPLETE of the case, with the listener", desk.move(0, 4), 2);
        can(due, "the COMPLETED case", desk, 0, "");
        due.is("the listener has left", desk.instance(1, 2), 5);
    }

    /** COMPLETE asks that the stage is settled; what is required or at work keeps it from that. */
    private static void settledStage(Due due) {
        CaseDesk desk = new CaseDesk();
        desk.item(1, 0, 4);
        desk.item(1, 0, 6);
        desk.item(3, 0, 2);
        desk.begin(20);
        due.is("required ones are ENABLED and AVAILABLE", desk.can(0, 4), false);
        desk.move(3, 9);
        due.is("a required one is ENABLED", desk.can(0, 4), false);
        desk.move(2, 2);
        due.is("one is ACTIVE", desk.can(0, 4), false);
        desk.move(2, 5);
        due.is("one is SUSPENDED", desk.can(0, 4), false);
        desk.move(2, 6);
        desk.move(2, 7);
        due.is("one is FAILED", desk.can(0, 4), false);
        due.failsAndKeeps("COMPLETE of a stage that isn't settled", STATE, desk, () -> desk.move(0, 4));
        desk.move(2, 9);
        due.is("one that isn't required is ENABLED", desk.can(0, 4), true);
        due.is("COMPLETE of the case and EXIT of the one", desk.move(0, 4), 2);

        CaseDesk required = new CaseDesk();
        required.item(3, 0, 2);
        required.begin(20);
        due.is("a required one is AVAILABLE", required.can(0, 4), false);
    }

    private static void parentMustBeActive(Due due) {
        CaseDesk desk = new CaseDesk();
        desk.item(0, 0, 0);
        desk.item(1, 1, 0);
        desk.item(1, 1, 4);
        desk.item(3, 1, 0);
        desk.begin(20);
        desk.move(2, 7);
        desk.move(1, 5);
        can(due, "a FAILED task in a SUSPENDED stage", desk, 2, "");
        can(due, "an ENABLED task in a SUSPENDED stage", desk, 3, "");
        can(due, "a listener in a SUSPENDED stage", desk, 4, "");
        desk.move(1, 6);
        can(due, "a FAILED task in an ACTIVE stage", desk, 2, "89");
        can(due, "an ENABLED task in an ACTIVE stage", desk, 3, "29");
        can(due, "a listener in an ACTIVE stage", desk, 4, "39");
    }

    /** The milestones hear each other: what the command sets going never ends. */
    private static void cutOff(Due due) {
        CaseDesk desk = new CaseDesk();
        desk.item(2, 0, 1);
        desk.item(2, 0, 1);
        desk.item(3, 0, 0);
        desk.on(desk.sentry(1, false), 2, 3);
        desk.on(desk.sentry(1, false), 3, 3);
        desk.on(desk.sentry(2, false), 1, 3);
        due.is("begin", desk.begin(20), 5);
        due.failsAndKeeps("OCCUR of the listener", CUT, desk, () -> desk.move(3, 3));
        due.is("can", desk.can(3, 3), true);
        due.is("EXIT of the listener", desk.move(3, 9), 1);
    }
}
