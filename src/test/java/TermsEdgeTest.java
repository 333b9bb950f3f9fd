import java.util.NoSuchElementException;

/** The boundary cases of the terms: what follows from a move, SATISFIED, WORKING OFF, SETTLED and DONE. */
public final class TermsEdgeTest {
    private static final Class<IllegalStateException> STATE = IllegalStateException.class;
    private static final Class<IllegalArgumentException> ARGUMENT = IllegalArgumentException.class;
    private static final Class<UnsupportedOperationException> CUT = UnsupportedOperationException.class;

    /** The moves by which a task comes from ACTIVE into each state; 0 where none is needed. */
    private static final int[] MOVE_THERE = {0, 0, 0, 5, 4, 9, 7};

    public static void main(String[] args) {
        Due due = new Due();
        caseIsNoneOfThese(due);
        startCreatesByNumber(due);
        exitOfAStage(due);
        completeOfAStage(due);
        suspendAndResumeOfAStage(due);
        repeatingWithoutEntries(due);
        repeatingWithEntries(due);
        notRepeating(due);
        markedUnlessFinal(due);
        markedWithTheSameParent(due);
        satisfiedWithoutParts(due);
        satisfiedWithTwoParts(due);
        satisfiedOnceTheIfPartIsTrue(due);
        exitInEveryState(due);
        exitsBeforeEntriesBeforeCompletions(due);
        listenersAreNotLetIn(due);
        manualMilestone(due);
        suspendedStageIsNotWorkedOff(due);
        doneInEveryState(due);
        emptyStageIsDone(due);
        firstExceptionThatApplies(due);
        due.end();
    }

    private static void states(Due due, String what, CaseDesk desk, int from, String want) {
        StringBuilder got = new StringBuilder();
        for (int k = from; k < from + want.length(); k++) {
            got.append(desk.instance(k, 2));
        }
        due.same(what, got.toString(), want);
    }

    /** "(the case is none of these)": not repeating, required, manual or automatic. */
    private static void caseIsNoneOfThese(Due due) {
        CaseDesk desk = new CaseDesk();
        desk.item(3, 0, 0);
        due.is("it starts without being manual", desk.begin(3), 3);
        due.is("it isn't automatic: a listener that isn't required keeps it", desk.instance(0, 2), 2);
        due.is("OCCUR, COMPLETE", desk.move(1, 3), 2);
        due.is("it isn't repeating", desk.instances(), 2);
    }

    /** "for each item in it, by number, an instance of it is created": not what is further in. */
    private static void startCreatesByNumber(Due due) {
        CaseDesk desk = new CaseDesk();
        desk.item(0, 0, 4);
        desk.item(3, 0, 0);
        desk.item(0, 1, 4);
        desk.item(3, 3, 0);
        desk.item(2, 1, 0);
        desk.item(1, 1, 4);
        desk.item(3, 1, 0);
        due.is("begin", desk.begin(60), 5);
        due.is("START of stage 1", desk.move(1, 2), 8);
        due.latest("by number, then worked off", desk, "1:2 3:0 4:0 5:0 6:0 3:1 4:3 5:1");
        for (int k = 3; k < 7; k++) {
            due.is("parent of " + k, desk.instance(k, 1), 1);
            due.is("item of " + k, desk.instance(k, 0), new int[] {3, 5, 6, 7}[k - 3]);
        }
    }

    /** Stage 1; in it, as instances 3 to 8, a task in every state but AVAILABLE, then a listener. */
    private static CaseDesk stageOfAllStates() {
        CaseDesk desk = new CaseDesk();
        desk.item(0, 0, 0);
        desk.item(3, 0, 0);
        for (int state = 1; state < 7; state++) {
            desk.item(1, 1, state == 1 ? 4 : 0);
        }
        desk.item(3, 1, 0);
        desk.begin(60);
        for (int state = 3; state < 7; state++) {
            desk.move(2 + state, MOVE_THERE[state]);
        }
        return desk;
    }

    /** "COMPLETE and EXIT of a stage: its children .. that aren't final EXIT, by number". */
    private static void exitOfAStage(Due due) {
        CaseDesk desk = stageOfAllStates();
        states(due, "before", desk, 3, "1234560");
        due.is("EXIT", desk.move(1, 9), 6);
        due.latest("in this order", desk, "1:9 3:9 4:9 5:9 8:9 9:9");
        states(due, "after", desk, 3, "5554555");
        states(due, "the stage and what is beside it", desk, 0, "250");
    }

    /** The same for COMPLETE: of a settled stage only what waits is left to leave. */
    private static void completeOfAStage(Due due) {
        CaseDesk desk = stageOfAllStates();
        for (int k : new int[] {4, 5, 8}) {
            desk.move(k, 9);
        }
        states(due, "before", desk, 3, "1554550");
        due.is("COMPLETE", desk.move(1, 4), 3);
        due.latest("in this order", desk, "1:4 3:9 9:9");
        states(due, "after", desk, 0, "2405554555");
    }

    /** "SUSPEND of a stage: its ACTIVE children SUSPEND"; "RESUME ..: its SUSPENDED children RESUME". */
    private static void suspendAndResumeOfAStage(Due due) {
        CaseDesk desk = stageOfAllStates();
        due.is("SUSPEND", desk.move(1, 5), 2);
        due.latest("in this order", desk, "1:5 4:5");
        states(due, "suspended", desk, 1, "30" + "1334560");
        due.is("RESUME", desk.move(1, 6), 3);
        due.latest("by number", desk, "1:6 4:6 5:6");
        states(due, "resumed", desk, 1, "20" + "1224560");
    }

    /** "COMPLETE and OCCUR of an instance of a REPEATING item without entries": exits are no entries. */
    private static void repeatingWithoutEntries(Due due) {
        for (int exits = 0; exits < 2; exits++) {
            CaseDesk desk = new CaseDesk();
            desk.item(1, 0, 1);
            desk.item(0, 0, 5);
            desk.item(3, 0, 1);
            if (exits == 1) {
                desk.on(desk.sentry(1, true), 100, 0);
                desk.on(desk.sentry(2, true), 100, 0);
            }
            desk.begin(30);
            due.is("COMPLETE of the task, the next one STARTS", desk.move(1, 4), 3);
            due.latest("in this order", desk, "1:4 4:0 4:2");
            due.is("START and COMPLETE of the stage, the next one is ENABLED", desk.move(2, 2), 4);
            due.latest("in this order", desk, "2:2 2:4 5:0 5:1");
            due.is("OCCUR of the listener, the next one waits", desk.move(3, 3), 2);
            due.latest("in this order", desk, "3:3 6:0");
            due.is("EXIT is no reason for a next one", desk.move(6, 9), 1);
            due.is("instances()", desk.instances(), 7);
            if (exits == 1) {
                due.is("nor is it when an exit sends away; the case completes", desk.set(0, 1), 3);
            }
        }
    }

    /** With an entry, satisfied or not, the next one comes when one is let in, not when it completes. */
    private static void repeatingWithEntries(Due due) {
        CaseDesk desk = new CaseDesk();
        desk.item(1, 0, 1);
        desk.when(desk.sentry(1, false), 0, 1, 9);
        desk.on(desk.sentry(1, false), 101, 0);
        desk.begin(30);
        due.is("CREATE, START", desk.set(1, 1), 2);
        due.latest("in this order", desk, "2:0 1:2");
        due.is("COMPLETE", desk.move(1, 4), 1);
        due.is("instances()", desk.instances(), 3);
        due.is("the next one waits", desk.instance(2, 2), 0);
        due.is("it isn't marked", desk.marked(2, 1, 0), false);
    }

    private static void notRepeating(Due due) {
        CaseDesk desk = new CaseDesk();
        desk.item(1, 0, 6);
        desk.item(3, 0, 6);
        desk.item(0, 0, 12);
        desk.item(1, 0, 0);
        desk.on(desk.sentry(1, false), 2, 3);
        desk.begin(30);
        due.is("OCCUR, ENABLE", desk.move(2, 3), 2);
        due.is("START", desk.move(1, 2), 1);
        due.is("COMPLETE", desk.move(1, 4), 1);
        due.is("START and COMPLETE of the empty stage", desk.move(3, 2), 2);
        due.is("instances()", desk.instances(), 5);
    }

    /** "of every instance that .. isn't final": of one item, beside the source and not further in. */
    private static void markedUnlessFinal(Due due) {
        CaseDesk desk = new CaseDesk();
        desk.item(1, 0, 1);
        desk.item(3, 0, 1);
        desk.item(0, 0, 0);
        desk.item(1, 3, 0);
        desk.item(3, 3, 0);
        desk.on(desk.sentry(1, true), 2, 3);
        desk.on(0, 103, 0);
        desk.on(desk.sentry(4, true), 5, 3);
        desk.on(1, 103, 0);
        desk.begin(30);
        desk.move(1, 4);
        int next = desk.instances() - 1;
        due.is("OCCUR beside the tasks", desk.move(2, 3), 2);
        due.is("a final one isn't marked", desk.marked(1, 0, 0), false);
        due.is("the next one is", desk.marked(next, 0, 0), true);
        due.is("the task further in isn't", desk.marked(4, 1, 0), false);
        due.is("OCCUR further in", desk.move(5, 3), 1);
        due.is("the task further in is marked", desk.marked(4, 1, 0), true);
    }

    /** "that has the same parent": in each of two instances of a stage only what moves beside it is heard. */
    private static void markedWithTheSameParent(Due due) {
        for (int move : new int[] {2, 4, 5, 7, 9}) {
            CaseDesk desk = new CaseDesk();
            desk.item(0, 0, 1);
            desk.item(1, 1, 4);
            desk.item(1, 1, 0);
            desk.on(desk.sentry(1, false), 100, 0);
            desk.on(desk.sentry(3, true), 2, move);
            desk.on(1, 103, 0);
            desk.begin(30);
            desk.set(0, 1);
            desk.set(0, 2);
            states(due, "two stages, one that waits, and what is in them", desk, 1, "22" + "12" + "0" + "12");
            if (move != 2 && move != 9) {
                desk.move(6, 2);
            }
            due.is("move " + move, desk.move(6, move), 1);
            due.is("the task beside it", desk.marked(7, 1, 0), true);
            due.is("the task of the other stage", desk.marked(4, 1, 0), false);
        }
    }

    /** "if all its on-parts are marked .. and its if-part, if it has one, is true": with neither it is. */
    private static void satisfiedWithoutParts(Due due) {
        CaseDesk desk = new CaseDesk();
        desk.item(1, 0, 0);
        desk.item(1, 0, 0);
        desk.item(2, 0, 0);
        desk.item(3, 0, 0);
        desk.sentry(1, false);
        desk.sentry(2, true);
        desk.sentry(3, false);
        desk.begin(30);
        states(due, "let in, sent away, let in", desk, 1, "254");
    }

    /** Of two on-parts each alone is not enough, in either order. */
    private static void satisfiedWithTwoParts(Due due) {
        for (int first = 0; first < 2; first++) {
            CaseDesk desk = new CaseDesk();
            desk.item(1, 0, 0);
            desk.item(3, 0, 0);
            desk.item(3, 0, 0);
            desk.on(desk.sentry(1, false), 2, 3);
            desk.on(0, 3, 3);
            desk.begin(30);
            due.is("the first OCCUR", desk.move(2 + first, 3), 1);
            due.is("part 0", desk.marked(1, 0, 0), first == 0);
            due.is("part 1", desk.marked(1, 0, 1), first == 1);
            due.is("the second OCCUR, START", desk.move(3 - first, 3), 2);
        }
    }

    /** What is marked stays marked until the if-part is true, and after it was true. */
    private static void satisfiedOnceTheIfPartIsTrue(Due due) {
        CaseDesk desk = new CaseDesk();
        desk.item(1, 0, 4);
        desk.item(3, 0, 0);
        desk.on(desk.sentry(1, false), 2, 3);
        desk.when(0, 1, 2, 10);
        desk.begin(30);
        due.is("OCCUR", desk.move(2, 3), 1);
        due.is("a number that isn't greater", desk.set(1, 10), 0);
        due.is("marked", desk.marked(1, 0, 0), true);
        due.is("a number that is", desk.set(1, 11), 1);
        due.is("marked still", desk.marked(1, 0, 0), true);
        due.is("ENABLED", desk.instance(1, 2), 1);
    }

    /** "EXIT of the lowest instance that isn't final, whose parent is ACTIVE": in every other state. */
    private static void exitInEveryState(Due due) {
        for (int state = 0; state < 7; state++) {
            CaseDesk desk = new CaseDesk();
            desk.item(1, 0, state == 1 ? 4 : 0);
            desk.item(3, 0, 0);
            desk.on(desk.sentry(1, true), 100, 0);
            if (state == 0) {
                desk.on(desk.sentry(1, false), 101, 0);
            }
            desk.begin(30);
            if (MOVE_THERE[state] > 0) {
                desk.move(1, MOVE_THERE[state]);
            }
            due.is("the state", desk.instance(1, 2), state);
            boolean leaves = state != 4 && state != 5;
            due.is("EXIT from state " + state, desk.set(0, 1), leaves ? 1 : 0);
            due.is("then", desk.instance(1, 2), leaves ? 5 : state);
        }
    }

    /** "the first of it is done": 1. EXIT, 2. entries, 3. COMPLETE; of each the lowest. */
    private static void exitsBeforeEntriesBeforeCompletions(Due due) {
        CaseDesk desk = new CaseDesk();
        desk.item(0, 0, 0);
        desk.item(1, 0, 0);
        desk.item(1, 0, 0);
        desk.item(1, 0, 0);
        desk.item(1, 0, 0);
        desk.item(1, 1, 0);
        desk.on(desk.sentry(2, false), 100, 0);
        desk.on(desk.sentry(3, false), 100, 0);
        desk.on(desk.sentry(4, true), 100, 0);
        desk.on(desk.sentry(5, true), 100, 0);
        desk.on(desk.sentry(6, true), 100, 0);
        desk.begin(30);
        due.is("set", desk.set(0, 1), 6);
        due.latest("in this order", desk, "4:9 5:9 6:9 2:2 3:2 1:4");
    }

    /** "the lowest AVAILABLE instance of a stage, task or milestone": a listener waits for its command. */
    private static void listenersAreNotLetIn(Due due) {
        CaseDesk desk = new CaseDesk();
        desk.item(3, 0, 0);
        desk.item(3, 0, 4);
        desk.begin(30);
        desk.set(0, 1);
        states(due, "listeners", desk, 1, "00");
    }

    /** "ENABLES if its item is MANUAL and no milestone". */
    private static void manualMilestone(Due due) {
        CaseDesk desk = new CaseDesk();
        desk.item(2, 0, 4);
        desk.item(1, 0, 4);
        desk.item(0, 0, 4);
        desk.begin(30);
        states(due, "milestone, task and stage", desk, 1, "411");
    }

    /** Nothing is let in, sent away or completed in a SUSPENDED stage, nor is the stage itself completed. */
    private static void suspendedStageIsNotWorkedOff(Due due) {
        CaseDesk desk = new CaseDesk();
        desk.item(0, 0, 0);
        desk.item(3, 0, 0);
        desk.item(1, 1, 0);
        desk.item(1, 1, 0);
        desk.on(desk.sentry(3, true), 100, 0);
        desk.on(desk.sentry(4, false), 100, 0);
        desk.on(desk.sentry(4, true), 101, 0);
        desk.begin(30);
        desk.move(1, 5);
        due.is("set", desk.set(0, 1), 0);
        states(due, "they stay", desk, 1, "3030");
        due.is("RESUME of both, EXIT, START", desk.move(1, 6), 4);
        due.latest("in this order", desk, "1:6 3:6 3:9 4:2");
        desk.move(1, 5);
        due.is("set", desk.set(1, 1), 0);
        due.is("RESUME of both, EXIT, COMPLETE of the stage", desk.move(1, 6), 4);
        due.latest("in this order", desk, "1:6 4:6 4:9 1:4");
    }

    /** SETTLED and DONE: the stage automatic or not, the child required or not and in each state. */
    private static void doneInEveryState(Due due) {
        for (int automatic = 0; automatic <= 8; automatic += 8) {
            for (int required = 0; required <= 2; required += 2) {
                for (int state = 0; state < 7; state++) {
                    boolean waits = state < 2;
                    boolean over = state == 4 || state == 5;
                    boolean settled = over || waits && required == 0;
                    boolean done = settled && (automatic == 8 || !waits);
                    CaseDesk desk = stageWithChild(automatic, required, state);
                    String what = "automatic " + automatic + ", required " + required + ", state " + state;
                    due.is(what + ": the stage", desk.instance(1, 2), done ? 4 : 2);
                    due.is(what + ": the child", desk.instance(3, 2), done && !over ? 5 : state);
                    due.is(what + ": can COMPLETE", desk.can(1, 4), settled && !done);
                    due.is(what + ": the case", desk.instance(0, 2), 2);
                }
            }
        }
    }

    /** Stage 1 with the task 3, which comes into the state; listener 2 keeps the case from its end. */
    private static CaseDesk stageWithChild(int automatic, int required, int state) {
        CaseDesk desk = new CaseDesk();
        desk.item(0, 0, automatic);
        desk.item(3, 0, 0);
        desk.item(1, 1, required + (state == 1 ? 4 : 0));
        if (state == 0) {
            desk.on(desk.sentry(3, false), 100, 0);
        }
        desk.begin(30);
        if (MOVE_THERE[state] > 0) {
            desk.move(3, MOVE_THERE[state]);
        }
        return desk;
    }

    /** "no child of it is ..": a stage without any is settled and done, whatever its flags. */
    private static void emptyStageIsDone(Due due) {
        for (int flags = 0; flags < 16; flags += 2) {
            CaseDesk desk = new CaseDesk();
            desk.item(0, 0, flags);
            desk.item(3, 0, 0);
            boolean manual = (flags & 4) != 0;
            due.is("begin with flags " + flags, desk.begin(30), manual ? 5 : 6);
            if (manual) {
                due.is("START and COMPLETE", desk.move(1, 2), 2);
            }
            due.is("it is COMPLETED", desk.instance(1, 2), 4);
        }
    }

    /** "the first that applies, in the order named, is thrown". */
    private static void firstExceptionThatApplies(Due due) {
        Twins begun = new Twins(due, desk -> {
            desk.item(3, 0, 1);
            desk.begin(60);
            for (int n = 1; n < 39; n++) {
                desk.move(n, 3);
            }
        });
        begun.refuse("item", STATE, desk -> desk.item(-1, -1, -1));
        begun.refuse("sentry", STATE, desk -> desk.sentry(-1, true));
        begun.refuse("on", STATE, desk -> desk.on(-1, -1, -1));
        begun.refuse("when", STATE, desk -> desk.when(-1, -1, -1, -1));
        begun.refuse("begin", STATE, desk -> desk.begin(-1));
        begun.refuse("move", NoSuchElementException.class, desk -> desk.move(-1, -1));
        begun.refuse("move of one that is there", ARGUMENT, desk -> desk.move(38, -1));
        begun.refuse("a move that is one", STATE, desk -> desk.move(38, 3));
        begun.refuse("a move that can be made", CUT, desk -> desk.move(39, 3));
        Twins endless = new Twins(due, desk -> desk.item(2, 0, 1));
        endless.refuse("begin without end and with a wrong bound", ARGUMENT, desk -> desk.begin(61));
        endless.refuse("begin without end", CUT, desk -> desk.begin(60));
    }
}
