/**
 * What is MARKED when an instance makes a move: "every on-part whose source is its item and whose move
 * this is, of the sentries of every instance that has the same parent, isn't final and isn't itself".
 */
public final class HearingTest {
    private static final int STAGE = 0;
    private static final int MILESTONE = 2;
    private static final int LISTENER = 3;

    /** The moves by which a task comes from ACTIVE into each state; 0 where none is needed. */
    private static final int[] MOVE_THERE = {0, 0, 0, 5, 4, 9, 7};

    public static void main(String[] args) {
        Due due = new Due();
        manualStageAsASource(due);
        stageAsASource(due);
        milestoneAsASource(due);
        listenerAsASource(due);
        hearerInEveryState(due);
        suspendAndResumeThatFollow(due);
        exitThatFollows(due);
        createThatFollowsFromComplete(due);
        createWhenOneIsLetIn(due);
        everyInstanceOfTheSource(due);
        everyInstanceOfTheHearer(due);
        twoPartsOfOneSource(due);
        due.end();
    }

    /**
     * Instance 1 is a task whose exit m hears move m of item 2 and is never satisfied; a source that is a
     * stage has the listener 4 in it; listener 3 keeps the case from its end.
     */
    private static CaseDesk withSource(int kind, int flags) {
        CaseDesk desk = new CaseDesk();
        desk.item(1, 0, 0);
        desk.item(kind, 0, flags);
        desk.item(LISTENER, 0, 0);
        if (kind == STAGE) {
            desk.item(LISTENER, 2, 0);
        }
        for (int move = 0; move < 10; move++) {
            desk.on(desk.sentry(1, true), 2, move);
            desk.on(move, 103, 0);
        }
        if (kind == MILESTONE) {
            desk.on(desk.sentry(2, false), 100, 0);
        }
        desk.begin(30);
        return desk;
    }

    private static void heard(Due due, String what, CaseDesk desk, String want) {
        StringBuilder got = new StringBuilder();
        for (int move = 0; move < 10; move++) {
            got.append(desk.marked(1, move, 0) ? String.valueOf(move) : "");
        }
        due.same("heard of " + what, got.toString(), want);
    }

    private static void manualStageAsASource(Due due) {
        CaseDesk desk = withSource(STAGE, 4);
        heard(due, "CREATE, ENABLE", desk, "01");
        desk.move(2, 2);
        heard(due, "START", desk, "012");
        desk.move(2, 5);
        heard(due, "SUSPEND", desk, "0125");
        desk.move(2, 6);
        heard(due, "RESUME", desk, "01256");
        desk.move(2, 4);
        heard(due, "COMPLETE", desk, "012456");
    }

    private static void stageAsASource(Due due) {
        CaseDesk desk = withSource(STAGE, 0);
        heard(due, "CREATE, START", desk, "02");
        desk.move(4, 9);
        heard(due, "COMPLETE that is worked off; not the EXIT of what is in it", desk, "024");
        CaseDesk leaving = withSource(STAGE, 0);
        leaving.move(2, 9);
        heard(due, "EXIT", leaving, "029");
    }

    private static void milestoneAsASource(Due due) {
        CaseDesk desk = withSource(MILESTONE, 0);
        heard(due, "CREATE", desk, "0");
        desk.set(0, 1);
        heard(due, "OCCUR", desk, "03");
        CaseDesk leaving = withSource(MILESTONE, 0);
        leaving.move(2, 9);
        heard(due, "EXIT", leaving, "09");
    }

    private static void listenerAsASource(Due due) {
        CaseDesk desk = withSource(LISTENER, 0);
        heard(due, "CREATE", desk, "0");
        desk.move(3, 3);
        heard(due, "the other listener: nothing", desk, "0");
        desk.move(2, 3);
        heard(due, "OCCUR", desk, "03");
        CaseDesk leaving = withSource(LISTENER, 0);
        leaving.move(2, 9);
        heard(due, "EXIT", leaving, "09");
    }

    /** "isn't final": in all other states an instance hears. */
    private static void hearerInEveryState(Due due) {
        for (int state = 0; state < 7; state++) {
            CaseDesk desk = new CaseDesk();
            desk.item(1, 0, state == 1 ? 4 : 0);
            desk.item(LISTENER, 0, 1);
            desk.on(desk.sentry(1, true), 2, 3);
            desk.on(0, 103, 0);
            if (state == 0) {
                desk.on(desk.sentry(1, false), 101, 0);
            }
            desk.begin(20);
            if (MOVE_THERE[state] > 0) {
                desk.move(1, MOVE_THERE[state]);
            }
            due.is("the state", desk.instance(1, 2), state);
            due.is("OCCUR and CREATE", desk.move(2, 3), 2);
            due.is("marked in state " + state, desk.marked(1, 0, 0), state != 4 && state != 5);
        }
    }

    /** Stage 1 with tasks 3 and 4; each has an exit that hears the move of the other. */
    private static CaseDesk tasksThatHear(int move) {
        CaseDesk desk = new CaseDesk();
        desk.item(STAGE, 0, 0);
        desk.item(LISTENER, 0, 0);
        desk.item(1, 1, 0);
        desk.item(1, 1, 0);
        desk.item(LISTENER, 1, 0);
        desk.on(desk.sentry(3, true), 4, move);
        desk.on(desk.sentry(4, true), 3, move);
        desk.begin(20);
        return desk;
    }

    /** Moves that follow from those of a stage are heard too; what hears them leaves once it may. */
    private static void suspendAndResumeThatFollow(Due due) {
        CaseDesk desk = tasksThatHear(5);
        due.is("SUSPEND of the stage and the tasks", desk.move(1, 5), 3);
        due.is("the lower one heard the higher one", desk.marked(3, 0, 0), true);
        due.is("the higher one heard the lower one", desk.marked(4, 1, 0), true);
        due.is("RESUME of them, EXIT of both tasks", desk.move(1, 6), 5);
        due.latest("in this order", desk, "1:6 3:6 4:6 3:9 4:9");
        CaseDesk resumed = tasksThatHear(6);
        due.is("SUSPEND of the stage and the tasks", resumed.move(1, 5), 3);
        due.is("nothing is heard", resumed.marked(3, 0, 0) || resumed.marked(4, 1, 0), false);
        due.is("RESUME of them, EXIT of both tasks", resumed.move(1, 6), 5);
        due.latest("in this order", resumed, "1:6 3:6 4:6 3:9 4:9");
    }

    /** With their stage all leave once, whatever they hear. */
    private static void exitThatFollows(Due due) {
        CaseDesk desk = tasksThatHear(9);
        due.is("EXIT of the stage and what is in it", desk.move(1, 9), 4);
        due.latest("in this order", desk, "1:9 3:9 4:9 5:9");
        CaseDesk one = tasksThatHear(9);
        due.is("EXIT of one task and the other", one.move(4, 9), 2);
        due.latest("in this order", one, "4:9 3:9");
    }

    /** The hearer was made after the first CREATE of its source, and hears the next one. */
    private static void createThatFollowsFromComplete(Due due) {
        CaseDesk desk = new CaseDesk();
        desk.item(1, 0, 1);
        desk.item(1, 0, 0);
        desk.on(desk.sentry(2, true), 1, 0);
        desk.begin(20);
        due.is("it hasn't heard the first one", desk.instance(2, 2), 2);
        due.is("COMPLETE, CREATE, EXIT of the hearer, START", desk.move(1, 4), 4);
        due.latest("in this order", desk, "1:4 3:0 2:9 3:2");
    }

    /** "a new instance .. is created; then the first one ..": both are done before the hearer leaves. */
    private static void createWhenOneIsLetIn(Due due) {
        CaseDesk desk = new CaseDesk();
        desk.item(1, 0, 1);
        desk.item(1, 0, 0);
        desk.on(desk.sentry(1, false), 100, 0);
        desk.on(desk.sentry(2, true), 1, 0);
        desk.begin(20);
        due.is("CREATE, START, EXIT of the hearer", desk.set(0, 1), 3);
        due.latest("in this order", desk, "3:0 1:2 2:9");
    }

    /** "whose source is its item": a later instance of the item is heard like the first one. */
    private static void everyInstanceOfTheSource(Due due) {
        CaseDesk desk = new CaseDesk();
        desk.item(LISTENER, 0, 1);
        desk.item(2, 0, 1);
        desk.on(desk.sentry(2, false), 1, 3);
        desk.begin(20);
        int listener = 1;
        for (int n = 0; n < 12; n++) {
            due.is("OCCUR and CREATE, then both for the milestone", desk.move(listener, 3), 4);
            listener = desk.instances() - 2;
        }
    }

    /** "of every instance": all that are there and not final, of one item. */
    private static void everyInstanceOfTheHearer(Due due) {
        CaseDesk desk = new CaseDesk();
        desk.item(1, 0, 1);
        desk.item(LISTENER, 0, 0);
        desk.item(LISTENER, 0, 0);
        desk.on(desk.sentry(1, false), 100, 0);
        desk.on(desk.sentry(1, true), 2, 3);
        desk.begin(20);
        for (int n = 1; n < 5; n++) {
            desk.set(0, n);
        }
        desk.move(4, 4);
        due.is("OCCUR, then EXIT of all tasks but the one that is COMPLETED", desk.move(2, 3), 5);
        due.latest("in this order", desk, "2:3 1:9 5:9 6:9 7:9");
    }

    /** Two on-parts of a sentry with one source: each waits for its own move. */
    private static void twoPartsOfOneSource(Due due) {
        CaseDesk desk = new CaseDesk();
        desk.item(1, 0, 0);
        desk.item(1, 0, 0);
        desk.on(desk.sentry(1, true), 2, 5);
        desk.on(0, 2, 6);
        desk.begin(20);
        due.is("SUSPEND", desk.move(2, 5), 1);
        due.is("the first part", desk.marked(1, 0, 0), true);
        due.is("the second part", desk.marked(1, 0, 1), false);
        due.is("RESUME, EXIT", desk.move(2, 6), 2);
    }
}
