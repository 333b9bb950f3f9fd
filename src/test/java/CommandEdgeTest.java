import java.util.NoSuchElementException;

/** The boundary cases of promises 6 to 8: begin, move, set; each test names its sentence. */
public final class CommandEdgeTest {
    private static final Class<IllegalStateException> STATE = IllegalStateException.class;
    private static final Class<IllegalArgumentException> ARGUMENT = IllegalArgumentException.class;
    private static final Class<NoSuchElementException> ELEMENT = NoSuchElementException.class;
    private static final Class<UnsupportedOperationException> CUT = UnsupportedOperationException.class;
    private static final int LEAST = Integer.MIN_VALUE;
    private static final int MOST = Integer.MAX_VALUE;

    public static void main(String[] args) {
        Due due = new Due();
        beginWhenBegun(due);
        boundIsNot2To60(due);
        boundIsThatOfLaterCommands(due);
        beginWasCutOff(due);
        moveWhenNotBegun(due);
        moveOfNoSuchInstance(due);
        moveIsNot2To9(due);
        moveOfAWrongStateOrKind(due);
        startOfOneThatIsNotEnabled(due);
        occurOfNoListener(due);
        completeOfAStageThatIsNotSettled(due);
        parentIsNotActive(due);
        caseHasNoParent(due);
        moveWasCutOff(due);
        setOfNoSuchVariable(due);
        setOfTheSameNumber(due);
        setAtTheEndsOfInt(due);
        setMarksAllThatAreNotFinal(due);
        setBeforeBegin(due);
        setWasCutOff(due);
        due.end();
    }

    private static void taskAndListener(CaseDesk desk) {
        desk.item(1, 0, 0);
        desk.item(3, 0, 0);
        desk.begin(20);
    }

    /** "IllegalStateException: it has begun", before a bound that is wrong, and when it is over too. */
    private static void beginWhenBegun(Due due) {
        Twins begun = new Twins(due, CommandEdgeTest::taskAndListener);
        Twins suspended = new Twins(due, desk -> {
            taskAndListener(desk);
            desk.move(0, 5);
        });
        Twins terminated = new Twins(due, desk -> {
            taskAndListener(desk);
            desk.move(0, 9);
        });
        Twins completed = new Twins(due, desk -> desk.begin(3));
        for (int bound : new int[] {LEAST, -1, 0, 1, 2, 20, 60, 61, MOST}) {
            begun.refuse("begin(" + bound + ")", STATE, desk -> desk.begin(bound));
            suspended.refuse("begin(" + bound + ") of a SUSPENDED case", STATE, desk -> desk.begin(bound));
            terminated.refuse("begin(" + bound + ") of a TERMINATED case", STATE, desk -> desk.begin(bound));
            completed.refuse("begin(" + bound + ") of a COMPLETED case", STATE, desk -> desk.begin(bound));
        }
    }

    /** "bound isn't 2 .. 60": a bound of 2 is one, but the case alone comes to a third move. */
    private static void boundIsNot2To60(Due due) {
        Twins empty = new Twins(due, desk -> { });
        Twins some = new Twins(due, desk -> {
            desk.item(3, 0, 0);
            desk.set(1, 4);
        });
        for (int bound : Edges.outside(2, 60)) {
            empty.refuse("begin(" + bound + ") of the case alone", ARGUMENT, desk -> desk.begin(bound));
            some.refuse("begin(" + bound + ")", ARGUMENT, desk -> desk.begin(bound));
        }
        empty.refuse("begin(2) of the case alone", CUT, desk -> desk.begin(2));
        some.refuse("begin(2)", CUT, desk -> desk.begin(2));
        for (int bound = 3; bound <= 60; bound++) {
            due.is("begin(" + bound + ") of the case alone", empty.desk().begin(bound), 3);
            due.is("begin(" + bound + ")", some.desk().begin(bound), 3);
        }
    }

    /** "bound is the BOUND of it and of all later commands": SUSPEND of the case and its tasks. */
    private static void boundIsThatOfLaterCommands(Due due) {
        for (int tasks = 1; tasks < 12; tasks++) {
            int count = tasks;
            CaseDesk desk = new CaseDesk();
            for (int n = 0; n < count; n++) {
                desk.item(1, 0, 0);
            }
            desk.begin(2 + 2 * count);
            due.is("SUSPEND of the case", desk.move(0, 5), 1 + count);
            due.is("RESUME of the case", desk.move(0, 6), 1 + count);
            due.is("EXIT of the case", desk.move(0, 9), 1 + count);
        }
        Twins three = new Twins(due, desk -> {
            desk.item(1, 0, 1);
            desk.on(desk.sentry(1, false), 100, 0);
            desk.begin(3);
            desk.set(0, 1);
            desk.set(0, 2);
        });
        due.is("two ACTIVE tasks and one that waits", three.desk().instances(), 4);
        due.is("SUSPEND of the case and two tasks", three.desk().move(0, 5), 3);
        three.refuse("EXIT of the case and three tasks", CUT, desk -> desk.move(0, 9));
    }

    /** "UnsupportedOperationException: it was cut off (it hasn't begun then)". */
    private static void beginWasCutOff(Due due) {
        Twins twins = new Twins(due, desk -> {
            desk.item(1, 0, 0);
            desk.on(desk.sentry(1, true), 100, 0);
            desk.set(3, -7);
        });
        for (int bound = 2; bound < 4; bound++) {
            int b = bound;
            twins.refuse("begin(" + bound + ")", CUT, desk -> desk.begin(b));
        }
        CaseDesk desk = twins.desk();
        due.fails("begin(3)", CUT, () -> desk.begin(3));
        due.fails("move", ELEMENT, () -> desk.move(0, 9));
        due.is("set just sets", desk.set(0, 5), 0);
        due.is("item", desk.item(3, 0, 0), 2);
        due.is("begin(5)", desk.begin(5), 5);
        due.is("nothing is marked", desk.marked(1, 0, 0), false);
        due.is("what was set stays", desk.value(3), -7);
    }

    /** "NoSuchElementException: the case hasn't begun", before a move that is wrong too. */
    private static void moveWhenNotBegun(Due due) {
        Twins fresh = new Twins(due, desk -> { });
        Twins described = new Twins(due, desk -> desk.item(1, 0, 0));
        Twins cutOff = new Twins(due, desk -> {
            desk.item(1, 0, 0);
            due.fails("begin", CUT, () -> desk.begin(3));
        });
        for (int k : new int[] {LEAST, -1, 0, 1, MOST}) {
            for (int move : new int[] {LEAST, -1, 0, 1, 2, 9, 10, MOST}) {
                String what = "move(" + k + ", " + move + ")";
                fresh.refuse(what, ELEMENT, desk -> desk.move(k, move));
                described.refuse(what, ELEMENT, desk -> desk.move(k, move));
                cutOff.refuse(what, ELEMENT, desk -> desk.move(k, move));
                due.is("can: " + what, described.desk().can(k, move), false);
            }
        }
    }

    /** "or there is no such instance", before a move that is wrong too; among few and among forty. */
    private static void moveOfNoSuchInstance(Due due) {
        Twins three = new Twins(due, CommandEdgeTest::taskAndListener);
        for (int k : Edges.outside(0, 2)) {
            for (int move : new int[] {LEAST, 1, 2, 9, 10, MOST}) {
                three.refuse("move(" + k + ", " + move + ")", ELEMENT, desk -> desk.move(k, move));
                due.is("can(" + k + ", " + move + ")", three.desk().can(k, move), false);
            }
        }
        due.is("the last of three", three.desk().move(2, 3), 1);
        Twins forty = new Twins(due, CommandEdgeTest::fortyInstances);
        for (int k : Edges.outside(0, 39)) {
            forty.refuse("move(" + k + ", 9) of forty", ELEMENT, desk -> desk.move(k, 9));
            due.is("can(" + k + ", 9) of forty", forty.desk().can(k, 9), false);
        }
        due.is("the last of forty", forty.desk().move(39, 9), 2);
    }

    private static void fortyInstances(CaseDesk desk) {
        desk.item(3, 0, 1);
        desk.begin(60);
        for (int n = 1; n < 39; n++) {
            desk.move(n, 3);
        }
    }

    /** "IllegalArgumentException: move isn't 2 .. 9", before a state that is wrong too. */
    private static void moveIsNot2To9(Due due) {
        Twins twins = new Twins(due, desk -> {
            taskAndListener(desk);
            desk.move(1, 4);
        });
        for (int move : Edges.outside(2, 9)) {
            for (int k = 0; k < 3; k++) {
                int instance = k;
                twins.refuse("move(" + k + ", " + move + ")", ARGUMENT, desk -> desk.move(instance, move));
                due.is("can(" + k + ", " + move + ")", twins.desk().can(k, move), false);
            }
        }
        twins.refuse("CREATE", ARGUMENT, desk -> desk.move(2, 0));
        twins.refuse("ENABLE", ARGUMENT, desk -> desk.move(2, 1));
        for (int move = 2; move < 10; move++) {
            int m = move;
            twins.refuse("move(1, " + m + ") of a COMPLETED one", STATE, desk -> desk.move(1, m));
        }
        due.is("EXIT of the case and the listener", twins.desk().move(0, 9), 2);
    }

    /** One of the kind and in the state, as instance 1 of a desk whose case is ACTIVE. */
    private static Twins.Steps inState(int kind, int state) {
        return desk -> {
            desk.item(kind, 0, state == 1 ? 4 : 0);
            desk.item(3, 0, 0);
            if (kind == 0) {
                desk.item(3, 1, 0);
            }
            if (kind != 3 && state == 0 || kind == 2 && state == 5) {
                desk.on(desk.sentry(1, false), 100, 0);
            }
            desk.begin(30);
            int[] moveThere = {-1, -1, -1, 5, kind == 3 ? 3 : 4, 9, 7};
            if (desk.instance(1, 2) != state) {
                desk.move(1, moveThere[state]);
            }
        };
    }

    /** "the instance isn't in a state and of a kind that the move asks for": every kind, state and move. */
    private static void moveOfAWrongStateOrKind(Due due) {
        String[][] allowed = {
            {"9", "29", "459", "69", "", "", null},
            {"9", "29", "4579", "69", "", "", "89"},
            {"9", null, null, null, "", "", null},
            {"39", null, null, null, "", "", null},
        };
        for (int kind = 0; kind < 4; kind++) {
            for (int state = 0; state < 7; state++) {
                if (allowed[kind][state] != null) {
                    everyMove(due, kind, state, allowed[kind][state]);
                }
            }
        }
    }

    private static void everyMove(Due due, int kind, int state, String allowed) {
        Twins twins = new Twins(due, inState(kind, state));
        String what = "kind " + kind + " in state " + state;
        due.is(what, twins.desk().instance(1, 2), state);
        for (int move = 2; move < 10; move++) {
            int m = move;
            boolean can = allowed.indexOf('0' + move) >= 0;
            due.is(what + ", can move " + m, twins.desk().can(1, m), can);
            if (can) {
                int[] after = {-1, -1, 2, 4, 4, 3, 2, 6, 2, 5};
                CaseDesk desk = twins.desk();
                due.is(what + ", move " + m + " is made", desk.move(1, m) > 0, true);
                due.is(what + ", then", desk.instance(1, 2), after[m]);
            } else {
                twins.refuse(what + ", move " + m, STATE, desk -> desk.move(1, m));
            }
        }
    }

    /** "or it is START and it isn't ENABLED": an AVAILABLE one could START, but not by a command. */
    private static void startOfOneThatIsNotEnabled(Due due) {
        for (int kind = 0; kind < 2; kind++) {
            Twins available = new Twins(due, inState(kind, 0));
            available.refuse("START of an AVAILABLE one", STATE, desk -> desk.move(1, 2));
            due.is("START of an ENABLED one", new Twins(due, inState(kind, 1)).desk().move(1, 2), 2 - kind);
        }
    }

    /** "OCCUR and it is no listener": an AVAILABLE milestone could OCCUR, but not by a command. */
    private static void occurOfNoListener(Due due) {
        new Twins(due, inState(2, 0)).refuse("OCCUR of a milestone", STATE, desk -> desk.move(1, 3));
        due.is("OCCUR of a listener", new Twins(due, inState(3, 0)).desk().move(1, 3), 1);
    }

    /** "COMPLETE, and it is a stage that isn't settled": each state of a child, required or not. */
    private static void completeOfAStageThatIsNotSettled(Due due) {
        for (int required = 0; required <= 2; required += 2) {
            for (int state = 0; state < 7; state++) {
                Twins twins = new Twins(due, stageWithChild(required, state));
                String what = "a child in state " + state + ", flags " + required;
                due.is(what, twins.desk().instance(4, 2), state);
                boolean settled = state == 4 || state == 5 || state < 2 && required == 0;
                due.is(what + ": can", twins.desk().can(1, 4), settled);
                if (settled) {
                    due.is(what + ": COMPLETE", twins.desk().move(1, 4), state < 2 ? 3 : 2);
                } else {
                    twins.refuse(what + ": COMPLETE", STATE, desk -> desk.move(1, 4));
                }
            }
        }
    }

    /** Instance 1 is a stage, in it 3 a listener and 4 a task in the state; 2 keeps the case from its end. */
    private static Twins.Steps stageWithChild(int flags, int state) {
        return desk -> {
            desk.item(0, 0, 0);
            desk.item(3, 0, 0);
            desk.item(3, 1, 0);
            desk.item(1, 1, flags + (state == 1 ? 4 : 0));
            if (state == 0) {
                desk.on(desk.sentry(4, false), 3, 3);
            }
            desk.begin(30);
            int[] moves = {0, 0, 0, 5, 4, 9, 7};
            if (moves[state] > 0) {
                desk.move(4, moves[state]);
            }
        };
    }

    /** "or its parent isn't ACTIVE": in every state that a child of a SUSPENDED stage can have. */
    private static void parentIsNotActive(Due due) {
        for (int state = 0; state < 7; state++) {
            Twins.Steps made = stageWithChild(0, state);
            Twins twins = new Twins(due, desk -> {
                made.on(desk);
                desk.move(1, 5);
            });
            due.is("state of the child", twins.desk().instance(4, 2), state == 2 ? 3 : state);
            for (int k = 3; k < 5; k++) {
                int instance = k;
                for (int move = 2; move < 10; move++) {
                    int m = move;
                    due.is("can(" + k + ", " + m + ")", twins.desk().can(k, m), false);
                    twins.refuse("move(" + k + ", " + m + ")", STATE, desk -> desk.move(instance, m));
                }
            }
        }
    }

    /** "(instance 0 has none)": no parent holds the case back. */
    private static void caseHasNoParent(Due due) {
        Twins active = new Twins(due, desk -> {
            desk.item(3, 0, 0);
            desk.begin(10);
        });
        due.is("COMPLETE", active.desk().move(0, 4), 2);
        due.is("SUSPEND", active.desk().move(0, 5), 1);
        due.is("EXIT", active.desk().move(0, 9), 2);
        Twins suspended = new Twins(due, desk -> {
            desk.item(3, 0, 0);
            desk.begin(10);
            desk.move(0, 5);
        });
        due.is("RESUME", suspended.desk().move(0, 6), 1);
        due.is("EXIT of a SUSPENDED case", suspended.desk().move(0, 9), 2);
        suspended.refuse("COMPLETE of a SUSPENDED case", STATE, desk -> desk.move(0, 4));
        suspended.refuse("SUSPEND of a SUSPENDED case", STATE, desk -> desk.move(0, 5));
    }

    /** "UnsupportedOperationException: it was cut off": can tells nothing of it. */
    private static void moveWasCutOff(Due due) {
        Twins forty = new Twins(due, CommandEdgeTest::fortyInstances);
        forty.refuse("OCCUR of the last of forty", CUT, desk -> desk.move(39, 3));
        due.is("can", forty.desk().can(39, 3), true);
        Twins endless = new Twins(due, desk -> {
            desk.item(2, 0, 1);
            desk.item(3, 0, 0);
            desk.when(desk.sentry(1, false), 0, 1, 1);
            desk.begin(60);
            desk.move(0, 5);
            desk.set(0, 1);
        });
        endless.refuse("RESUME of what goes on and on", CUT, desk -> desk.move(0, 6));
        due.is("can RESUME", endless.desk().can(0, 6), true);
    }

    private static void hearsAll(CaseDesk desk) {
        desk.item(1, 0, 0);
        desk.item(3, 0, 0);
        for (int v = 0; v < 4; v++) {
            desk.on(desk.sentry(1, true), 100 + v, 0);
        }
    }

    /** "IllegalArgumentException: there is no such variable", before the case has begun and after. */
    private static void setOfNoSuchVariable(Due due) {
        Twins before = new Twins(due, CommandEdgeTest::hearsAll);
        Twins after = new Twins(due, desk -> {
            hearsAll(desk);
            desk.begin(20);
        });
        for (int variable : Edges.outside(0, 3)) {
            before.refuse("set(" + variable + ") before begin", ARGUMENT, desk -> desk.set(variable, 1));
            after.refuse("set(" + variable + ", 1)", ARGUMENT, desk -> desk.set(variable, 1));
            after.refuse("set(" + variable + ", 0)", ARGUMENT, desk -> desk.set(variable, 0));
        }
        for (int v = 0; v < 4; v++) {
            CaseDesk desk = after.desk();
            due.is("set(" + v + ", 1)", desk.set(v, 1), 1);
            for (int other = 0; other < 4; other++) {
                due.is("value(" + other + ")", desk.value(other), other == v ? 1 : 0);
            }
        }
    }

    /** "if that is another one than before". */
    private static void setOfTheSameNumber(Due due) {
        for (int number : new int[] {LEAST, -1, 0, 1, MOST}) {
            CaseDesk desk = new CaseDesk();
            hearsAll(desk);
            desk.set(2, number);
            desk.begin(20);
            due.is("the number that it has: " + number, desk.set(2, number), 0);
            due.is("marks nothing", desk.marked(1, 2, 0), false);
            due.is("state of the task", desk.instance(1, 2), 2);
            due.is("another number", desk.set(2, number + 1), 1);
            due.is("state of the task then", desk.instance(1, 2), 5);
        }
    }

    /** A number is an int, from end to end. */
    private static void setAtTheEndsOfInt(Due due) {
        int[] numbers = {LEAST, MOST, LEAST + 1, -1, MOST - 1, 0, LEAST};
        CaseDesk desk = new CaseDesk();
        desk.item(2, 0, 1);
        desk.item(3, 0, 0);
        desk.on(desk.sentry(1, false), 103, 0);
        desk.begin(20);
        for (int number : numbers) {
            due.is("CREATE and OCCUR at " + number, desk.set(3, number), 2);
            due.is("value(3)", desk.value(3), number);
        }
    }

    /** "marked for every instance that isn't final and whose item has the sentry": in every state. */
    private static void setMarksAllThatAreNotFinal(Due due) {
        for (int state = 0; state < 7; state++) {
            CaseDesk desk = new CaseDesk();
            desk.item(1, 0, state == 1 ? 4 : 0);
            desk.item(1, 0, 0);
            desk.on(desk.sentry(1, true), 100, 0);
            desk.on(0, 101, 0);
            if (state == 0) {
                desk.on(desk.sentry(1, false), 101, 0);
            }
            desk.begin(20);
            int[] moves = {0, 0, 0, 5, 4, 9, 7};
            if (moves[state] > 0) {
                desk.move(1, moves[state]);
            }
            due.is("the state", desk.instance(1, 2), state);
            due.is("set", desk.set(0, 1), 0);
            due.is("marked in state " + state, desk.marked(1, 0, 0), state != 4 && state != 5);
            due.is("of one whose item hasn't the sentry", desk.marked(2, 0, 0), false);
            due.is("of the case", desk.marked(0, 0, 0), false);
        }
    }

    /** "Before the case has begun the variable just gets the number: 0". */
    private static void setBeforeBegin(Due due) {
        CaseDesk desk = new CaseDesk();
        hearsAll(desk);
        for (int number : new int[] {LEAST, MOST, 0, 5}) {
            for (int v = 0; v < 4; v++) {
                due.is("set(" + v + ", " + number + ")", desk.set(v, number), 0);
                due.is("value(" + v + ")", desk.value(v), number);
            }
        }
        due.is("instances()", desk.instances(), 0);
        due.is("moves()", desk.moves(), 0);
        due.is("nothing is marked by it: begin", desk.begin(20), 5);
        for (int s = 0; s < 4; s++) {
            due.is("marked(1, " + s + ", 0)", desk.marked(1, s, 0), false);
        }
    }

    /** "UnsupportedOperationException: it was cut off": the number and the marks are gone too. */
    private static void setWasCutOff(Due due) {
        Twins twins = new Twins(due, desk -> {
            desk.item(2, 0, 1);
            desk.item(1, 0, 0);
            desk.when(desk.sentry(1, false), 0, 2, 3);
            desk.on(desk.sentry(2, true), 100, 0);
            desk.on(1, 101, 0);
            desk.begin(60);
        });
        twins.refuse("set(0, 4)", CUT, desk -> desk.set(0, 4));
        twins.refuse("set(0, MOST)", CUT, desk -> desk.set(0, MOST));
        CaseDesk desk = twins.desk();
        due.fails("set(0, 4)", CUT, () -> desk.set(0, 4));
        due.is("value(0)", desk.value(0), 0);
        due.is("marked(2, 1, 0)", desk.marked(2, 1, 0), false);
        due.is("the last number that lets none in", desk.set(0, 3), 0);
        due.is("marked(2, 1, 0) then", desk.marked(2, 1, 0), true);
    }
}
