/** Stages and what is in them: which children keep a stage, whose parent is whose, and what is let in once. */
public final class StagesTest {
    private static final Class<IllegalStateException> STATE = IllegalStateException.class;
    private static final int STAGE = 0;
    private static final int TASK = 1;
    private static final int MILESTONE = 2;
    private static final int LISTENER = 3;

    public static void main(String[] args) {
        Due due = new Due();
        requiredOfEveryKind(due);
        stageInAStage(due);
        requiredOneThatIsOver(due);
        parentsAreOfTheStage(due);
        letInOnce(due);
        letInOnceThoughRepeating(due);
        firstIsSoughtAnewAfterAnEntry(due);
        firstIsSoughtAnewAfterACompletion(due);
        suspendedFarAbove(due);
        due.end();
    }

    /** Stage 1 of these flags with a child of the kind that is AVAILABLE, or ENABLED if it is manual. */
    private static CaseDesk stageWith(int stageFlags, int kind, int flags) {
        CaseDesk desk = new CaseDesk();
        desk.item(STAGE, 0, stageFlags);
        desk.item(LISTENER, 0, 0);
        desk.item(kind, 1, flags);
        desk.item(TASK, 1, 0);
        if (kind != LISTENER && (flags & 4) == 0) {
            desk.on(desk.sentry(3, false), 100, 0);
        }
        desk.begin(30);
        return desk;
    }

    /** "no child of a REQUIRED item is AVAILABLE or ENABLED": of each kind. */
    private static void requiredOfEveryKind(Due due) {
        for (int kind = STAGE; kind <= LISTENER; kind++) {
            for (int manual = 0; manual <= (kind <= TASK ? 4 : 0); manual += 4) {
                String what = "kind " + kind + ", manual " + manual;
                CaseDesk required = stageWith(0, kind, manual + 2);
                due.is(what + ": it waits", required.instance(3, 2), manual / 4);
                due.is(what + ": COMPLETE of the task beside it", required.move(4, 4), 1);
                due.failsAndKeeps(what + ": required", STATE, required, () -> required.move(1, 4));
                CaseDesk other = stageWith(0, kind, manual);
                due.is(what + ": COMPLETE of the task beside it", other.move(4, 4), 1);
                due.is(what + ": not required", other.move(1, 4), 2);
                due.latest("COMPLETE, EXIT", other, "1:4 3:9");
                CaseDesk automatic = stageWith(8, kind, manual);
                due.is(what + ": an automatic stage completes by itself", automatic.move(4, 4), 3);
                CaseDesk kept = stageWith(8, kind, manual + 2);
                due.is(what + ": unless it is required", kept.move(4, 4), 1);
            }
        }
    }

    /** "no child of it is ACTIVE, SUSPENDED ..": a stage in it keeps an automatic stage too. */
    private static void stageInAStage(Due due) {
        CaseDesk desk = new CaseDesk();
        desk.item(STAGE, 0, 8);
        desk.item(LISTENER, 0, 0);
        desk.item(STAGE, 1, 0);
        desk.item(LISTENER, 3, 0);
        desk.begin(30);
        due.is("the stage in it is ACTIVE", desk.instance(3, 2), 2);
        due.failsAndKeeps("COMPLETE of the outer stage", STATE, desk, () -> desk.move(1, 4));
        due.is("SUSPEND of the inner stage alone", desk.move(3, 5), 1);
        due.failsAndKeeps("COMPLETE with a SUSPENDED one in it", STATE, desk, () -> desk.move(1, 4));
        due.is("EXIT of the inner one with its listener; the outer one completes", desk.move(3, 9), 3);
        due.latest("in this order", desk, "3:9 4:9 1:4");
    }

    /** A required one that is COMPLETED or TERMINATED keeps nothing. */
    private static void requiredOneThatIsOver(Due due) {
        for (int move : new int[] {3, 9}) {
            CaseDesk desk = new CaseDesk();
            desk.item(LISTENER, 0, 2);
            desk.begin(30);
            due.failsAndKeeps("COMPLETE of the case", STATE, desk, () -> desk.move(0, 4));
            due.is("move " + move + " of the listener, the case completes", desk.move(1, move), 2);
        }
    }

    /** "a PARENT, an instance of the stage that its item is in": with two instances of each stage. */
    private static void parentsAreOfTheStage(Due due) {
        int[] stages = {-1, 0, 1, 1, 2, 0};
        CaseDesk desk = new CaseDesk();
        desk.item(STAGE, stages[1], 1);
        desk.item(STAGE, stages[2], 1);
        desk.item(LISTENER, stages[3], 0);
        desk.item(LISTENER, stages[4], 0);
        desk.item(LISTENER, stages[5], 0);
        desk.on(desk.sentry(1, false), 100, 0);
        desk.on(desk.sentry(2, false), 101, 0);
        desk.begin(40);
        for (int n = 1; n <= 2; n++) {
            desk.set(0, n);
            desk.set(1, n);
        }
        int[] items = {0, 1, 5, 1, 2, 3, 2, 4, 1, 2, 3, 2, 4, 2, 4};
        int[] parents = {-1, 0, 0, 0, 1, 1, 1, 4, 0, 3, 3, 1, 6, 3, 9};
        due.is("instances()", desk.instances(), items.length);
        for (int k = 0; k < items.length; k++) {
            due.is("item of " + k, desk.instance(k, 0), items[k]);
            due.is("parent of " + k, desk.instance(k, 1), parents[k]);
            if (k > 0) {
                due.is("the item of the parent of " + k, desk.instance(parents[k], 0), stages[items[k]]);
            }
        }
    }

    /** "the lowest AVAILABLE instance": one that is ENABLED or ACTIVE is not let in again. */
    private static void letInOnce(Due due) {
        for (int manual = 0; manual <= 4; manual += 4) {
            CaseDesk desk = new CaseDesk();
            desk.item(TASK, 0, manual);
            desk.on(desk.sentry(1, false), 100, 0);
            desk.on(desk.sentry(1, false), 101, 0);
            desk.begin(30);
            due.is("one entry", desk.set(0, 1), 1);
            due.is("the same entry", desk.set(0, 2), 0);
            due.is("the other entry", desk.set(1, 1), 0);
            due.is("it is marked", desk.marked(1, 1, 0), true);
            due.is("its state", desk.instance(1, 2), manual == 4 ? 1 : 2);
            due.is("its moves", desk.instance(1, 3), 2);
        }
    }

    /** Only the one that waits is let in at the next number, and another one comes for it. */
    private static void letInOnceThoughRepeating(Due due) {
        CaseDesk desk = new CaseDesk();
        desk.item(TASK, 0, 5);
        desk.on(desk.sentry(1, false), 100, 0);
        desk.on(desk.sentry(1, false), 101, 0);
        desk.begin(30);
        due.is("CREATE, ENABLE", desk.set(0, 1), 2);
        due.latest("in this order", desk, "2:0 1:1");
        due.is("CREATE, ENABLE of the next one", desk.set(1, 1), 2);
        due.latest("in this order", desk, "3:0 2:1");
        due.is("the first one's moves", desk.instance(1, 3), 2);
    }

    /** "as long as something .. can be done, the first of it is done": an EXIT between two entries. */
    private static void firstIsSoughtAnewAfterAnEntry(Due due) {
        CaseDesk desk = new CaseDesk();
        for (int n = 0; n < 4; n++) {
            desk.item(TASK, 0, 0);
        }
        desk.on(desk.sentry(2, false), 100, 0);
        desk.on(desk.sentry(3, false), 100, 0);
        desk.on(desk.sentry(1, true), 2, 2);
        desk.on(desk.sentry(4, true), 3, 2);
        desk.begin(30);
        due.is("set", desk.set(0, 1), 4);
        due.latest("in this order", desk, "2:2 1:9 3:2 4:9");
    }

    /** The same between two completions: an entry, and before it an EXIT. */
    private static void firstIsSoughtAnewAfterACompletion(Due due) {
        CaseDesk desk = new CaseDesk();
        desk.item(STAGE, 0, 0);
        desk.item(STAGE, 0, 0);
        desk.item(TASK, 0, 0);
        desk.item(TASK, 0, 0);
        desk.item(TASK, 1, 0);
        desk.item(TASK, 2, 0);
        desk.on(desk.sentry(5, true), 100, 0);
        desk.on(desk.sentry(6, true), 100, 0);
        desk.on(desk.sentry(3, false), 1, 4);
        desk.on(desk.sentry(4, true), 1, 4);
        desk.begin(30);
        due.is("set", desk.set(0, 1), 6);
        due.latest("in this order", desk, "5:9 6:9 1:4 4:9 3:2 2:4");
    }

    /** The case is SUSPENDED, and with it all stages in it: nothing is worked off at any depth. */
    private static void suspendedFarAbove(Due due) {
        CaseDesk desk = new CaseDesk();
        desk.item(STAGE, 0, 0);
        desk.item(STAGE, 1, 0);
        desk.item(TASK, 2, 0);
        desk.item(MILESTONE, 2, 0);
        desk.on(desk.sentry(3, true), 100, 0);
        desk.on(desk.sentry(4, false), 100, 0);
        desk.begin(30);
        due.is("SUSPEND of the case, the stages and the task", desk.move(0, 5), 4);
        due.is("set", desk.set(0, 1), 0);
        due.is("RESUME of all, EXIT, OCCUR, three COMPLETE", desk.move(0, 6), 9);
        due.latest("in this order", desk, "0:6 1:6 2:6 3:6 3:9 4:3 2:4 1:4 0:4");
    }
}
