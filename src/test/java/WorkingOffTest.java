/** The terms: what follows from a move, in which order commands are worked off, and when a stage is done. */
public final class WorkingOffTest {
    private static final Class<UnsupportedOperationException> CUT = UnsupportedOperationException.class;

    public static void main(String[] args) {
        Due due = new Due();
        exitsComeFirst(due);
        lowestFirst(due);
        entriesBeforeCompletions(due);
        repeatingWithEntry(due);
        repeatingWithoutEntry(due);
        repeatingStage(due);
        repeatingOnlyInAnActiveParent(due);
        oneOfSeveralSentries(due);
        marksOnlyBesideEachOther(due);
        marksOfLaterInstances(due);
        suspendAndResume(due);
        whollyBeforeTheNext(due);
        automatic(due);
        notAutomatic(due);
        deepStages(due);
        exactBound(due);
        due.end();
    }

    private static void exitsComeFirst(Due due) {
        CaseDesk desk = new CaseDesk();
        desk.item(1, 0, 0);
        desk.item(1, 0, 0);
        desk.item(3, 0, 0);
        desk.on(desk.sentry(1, false), 3, 3);
        desk.on(desk.sentry(1, true), 2, 9);
        desk.on(desk.sentry(2, true), 3, 3);
        desk.begin(20);
        due.is("the second task leaves, then the first, before it is let in; the case completes",
                desk.move(3, 3), 4);
        due.latest("in this order", desk, "3:3 2:9 1:9 0:4");
    }

    private static void lowestFirst(Due due) {
        CaseDesk desk = new CaseDesk();
        desk.item(3, 0, 0);
        desk.item(1, 0, 0);
        desk.item(2, 0, 0);
        desk.item(1, 0, 4);
        desk.item(1, 0, 0);
        for (int item = 2; item < 6; item++) {
            desk.on(desk.sentry(item, false), 1, 3);
        }
        desk.begin(20);
        due.is("OCCUR", desk.move(1, 3), 5);
        due.latest("START, OCCUR, ENABLE, START by number", desk, "1:3 2:2 3:3 4:1 5:2");
    }

    /** The second empty stage is let in before the first one completes. */
    private static void entriesBeforeCompletions(Due due) {
        CaseDesk desk = new CaseDesk();
        desk.item(0, 0, 0);
        desk.item(0, 0, 0);
        desk.item(3, 0, 0);
        due.is("begin", desk.begin(20), 9);
        due.latest("both start, then both complete", desk, "0:0 0:2 1:0 2:0 3:0 1:2 2:2 1:4 2:4");
    }

    private static void repeatingWithEntry(Due due) {
        CaseDesk desk = new CaseDesk();
        desk.item(3, 0, 1);
        desk.item(1, 0, 1);
        desk.item(1, 0, 5);
        desk.item(2, 0, 5);
        for (int item = 2; item < 5; item++) {
            desk.on(desk.sentry(item, false), 1, 3);
        }
        due.is("begin lets none in", desk.begin(30), 6);
        due.is("OCCUR", desk.move(1, 3), 8);
        due.latest("the next one is created before the first moves", desk,
                "1:3 5:0 6:0 2:2 7:0 3:1 8:0 4:3");
        due.is("the next one isn't marked", desk.marked(6, 0, 0), false);
        due.is("the first one stays marked", desk.marked(2, 0, 0), true);
        due.is("COMPLETE of the first one creates none", desk.move(2, 4), 1);
        due.is("OCCUR of the next listener", desk.move(5, 3), 8);
        due.latest("lets in the next ones", desk, "5:3 9:0 10:0 6:2 11:0 7:1 12:0 8:3");
        due.is("they have the same parent", desk.instance(12, 1), 0);
    }

    private static void repeatingWithoutEntry(Due due) {
        CaseDesk desk = new CaseDesk();
        desk.item(1, 0, 1);
        desk.on(desk.sentry(1, true), 100, 0);
        desk.begin(20);
        due.is("COMPLETE, CREATE, START", desk.move(1, 4), 3);
        due.latest("in this order", desk, "1:4 2:0 2:2");
        due.is("FAIL creates none", desk.move(2, 7), 1);
        due.is("RETRY creates none", desk.move(2, 8), 1);
        due.is("EXIT creates none, and the case completes", desk.set(0, 1), 2);
        due.is("instances()", desk.instances(), 3);

        CaseDesk endless = new CaseDesk();
        endless.item(2, 0, 1);
        due.failsAndKeeps("a repeating milestone without entries", CUT, endless, () -> endless.begin(60));
    }

    /** The children leave before the stage comes again. */
    private static void repeatingStage(Due due) {
        CaseDesk desk = new CaseDesk();
        desk.item(0, 0, 5);
        desk.item(3, 1, 1);
        desk.begin(20);
        desk.move(1, 2);
        due.is("COMPLETE", desk.move(1, 4), 4);
        due.latest("in this order", desk, "1:4 2:9 3:0 3:1");
        due.is("the listener that left isn't repeated", desk.instances(), 4);
    }

    /** Those that leave with their parent don't come again. */
    private static void repeatingOnlyInAnActiveParent(Due due) {
        CaseDesk desk = new CaseDesk();
        desk.item(0, 0, 8);
        desk.item(1, 1, 1);
        desk.item(3, 1, 1);
        desk.begin(20);
        due.is("EXIT of the case with all in it", desk.move(0, 9), 4);
        due.latest("in this order", desk, "0:9 1:9 2:9 3:9");
        due.is("instances()", desk.instances(), 4);
    }

    private static void oneOfSeveralSentries(Due due) {
        CaseDesk desk = new CaseDesk();
        desk.item(1, 0, 0);
        desk.item(3, 0, 0);
        desk.on(desk.sentry(1, false), 100, 0);
        desk.on(desk.sentry(1, false), 101, 0);
        desk.on(desk.sentry(1, true), 102, 0);
        desk.on(desk.sentry(1, true), 103, 0);
        desk.begin(20);
        due.is("an exit doesn't let in: it waits", desk.instance(1, 2), 0);
        due.is("the second entry is enough", desk.set(1, 1), 1);
        due.is("the first entry counts no more", desk.set(0, 1), 0);
        due.is("the second exit is enough", desk.set(3, 1), 1);
        due.is("the task left", desk.instance(1, 2), 5);
    }

    /** Two instances of a stage: what happens in one isn't heard in the other. */
    private static void marksOnlyBesideEachOther(Due due) {
        CaseDesk desk = new CaseDesk();
        desk.item(0, 0, 1);
        desk.item(3, 1, 0);
        desk.item(2, 1, 0);
        desk.on(desk.sentry(1, false), 100, 0);
        desk.on(desk.sentry(3, false), 2, 3);
        desk.begin(20);
        desk.set(0, 1);
        desk.set(0, 2);
        due.is("two stages, one more that waits, and what is in them", desk.instances(), 8);
        due.is("the listener of the second", desk.instance(6, 1), 2);
        due.is("OCCUR, OCCUR, COMPLETE of the second", desk.move(6, 3), 3);
        due.latest("in this order", desk, "6:3 7:3 2:4");
        due.is("the milestone of the first waits", desk.instance(4, 2), 0);
        due.is("and isn't marked", desk.marked(4, 1, 0), false);
    }

    /** Only instances that are there are marked: CREATE is heard by those made before. */
    private static void marksOfLaterInstances(Due due) {
        CaseDesk desk = new CaseDesk();
        desk.item(1, 0, 0);
        desk.item(1, 0, 0);
        desk.item(1, 0, 0);
        desk.on(desk.sentry(1, false), 2, 0);
        desk.on(desk.sentry(3, false), 2, 0);
        due.is("begin", desk.begin(20), 7);
        due.is("the one made before is let in", desk.instance(1, 2), 2);
        due.is("the one made after isn't", desk.instance(3, 2), 0);
        due.is("nor marked", desk.marked(3, 1, 0), false);
    }

    private static void suspendAndResume(Due due) {
        CaseDesk desk = new CaseDesk();
        desk.item(0, 0, 0);
        desk.item(1, 1, 0);
        desk.item(1, 1, 4);
        desk.item(1, 1, 0);
        desk.item(1, 0, 0);
        desk.begin(20);
        desk.move(5, 7);
        desk.move(3, 5);
        due.is("SUSPEND of the case: what is ACTIVE in it, at every depth", desk.move(0, 5), 3);
        due.latest("in this order", desk, "0:5 1:5 2:5");
        due.is("RESUME of the case: also what was SUSPENDED by itself", desk.move(0, 6), 4);
        due.latest("by number, each wholly", desk, "0:6 1:6 3:6 2:6");
        due.is("the ENABLED one stayed", desk.instance(4, 2), 1);
        due.is("the FAILED one stayed", desk.instance(5, 2), 6);
    }

    /** A stage leaves with all that is in it before the next one of its parent leaves. */
    private static void whollyBeforeTheNext(Due due) {
        CaseDesk desk = new CaseDesk();
        desk.item(0, 0, 0);
        desk.item(1, 0, 0);
        desk.item(0, 1, 0);
        desk.item(1, 3, 0);
        desk.item(1, 1, 0);
        desk.begin(30);
        due.is("EXIT of the case", desk.move(0, 9), 6);
        due.latest("in this order", desk, "0:9 1:9 3:9 5:9 4:9 2:9");
    }

    private static void automatic(Due due) {
        CaseDesk desk = new CaseDesk();
        desk.item(0, 0, 8);
        desk.item(3, 0, 0);
        desk.item(1, 1, 4);
        desk.item(1, 1, 0);
        desk.item(3, 1, 0);
        desk.item(3, 1, 2);
        desk.begin(30);
        due.is("a required listener keeps the stage", desk.move(4, 4), 1);
        due.is("then it is done", desk.move(6, 3), 4);
        due.latest("and what is left in it leaves", desk, "6:3 1:4 3:9 5:9");
        due.is("the case isn't automatic", desk.instance(0, 2), 2);
    }

    private static void notAutomatic(Due due) {
        CaseDesk desk = new CaseDesk();
        desk.item(0, 0, 0);
        desk.item(1, 1, 4);
        desk.item(3, 1, 0);
        desk.begin(30);
        due.is("an ENABLED one keeps the stage", desk.move(3, 3), 1);
        due.is("START", desk.move(2, 2), 1);
        due.is("COMPLETE of the task, the stage and the case", desk.move(2, 4), 3);
        due.latest("in this order", desk, "2:4 1:4 0:4");
    }

    /** Eleven stages, the case among them, each in the one before, with a task in the last. */
    private static void deepStages(Due due) {
        CaseDesk desk = new CaseDesk();
        for (int n = 0; n < 10; n++) {
            desk.item(0, n, 0);
        }
        desk.item(1, 10, 0);
        due.is("begin", desk.begin(60), 24);
        due.is("SUSPEND of the case", desk.move(0, 5), 12);
        due.latest("from the outside in", desk, "0:5 1:5 2:5 3:5 4:5 5:5 6:5 7:5 8:5 9:5 10:5 11:5");
        due.is("RESUME of the case", desk.move(0, 6), 12);
        due.is("COMPLETE of the task and all stages", desk.move(11, 4), 12);
        due.latest("from the inside out", desk, "11:4 10:4 9:4 8:4 7:4 6:4 5:4 4:4 3:4 2:4 1:4 0:4");
    }

    /** Just as many moves as the bound are no reason to cut off; one more is. */
    private static void exactBound(Due due) {
        for (int tasks = 1; tasks < 12; tasks++) {
            CaseDesk desk = new CaseDesk();
            for (int n = 0; n < tasks; n++) {
                desk.item(1, 0, 0);
            }
            int moves = 2 + 2 * tasks;
            due.failsAndKeeps("one less than it takes", CUT, desk, () -> desk.begin(moves - 1));
            due.is("just what it takes", desk.begin(moves), moves);
        }
    }
}
