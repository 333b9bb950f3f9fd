/**
 * "If it would come to more moves than the BOUND, or to a forty-first instance, it is CUT OFF: all is as
 * it was before it": just as many and one more, for each of the three commands.
 */
public final class CutOffEdgeTest {
    private static final Class<UnsupportedOperationException> CUT = UnsupportedOperationException.class;

    public static void main(String[] args) {
        Due due = new Due();
        movesOfBegin(due);
        movesOfMove(due);
        movesOfSet(due);
        everyBound(due);
        instancesOfBegin(due);
        instancesOfMove(due);
        instancesThatFollowFromStart(due);
        instancesOfSet(due);
        cutOffInTheMidst(due);
        historyIsWholeAgain(due);
        theSameAgain(due);
        due.end();
    }

    /**
     * Nine empty stages that complete one after the other; a repeating stage hears the COMPLETE of some,
     * three moves each, and a repeating milestone that of others, two moves each.
     */
    private static Twins.Steps nineStages(int byStage, int byMilestone) {
        return desk -> {
            for (int n = 1; n < 10; n++) {
                desk.item(0, 0, 0);
            }
            desk.item(0, 0, 1);
            desk.item(2, 0, 1);
            // An entry that never comes true, so that there is always one.
            desk.when(desk.sentry(10, false), 0, 1, 77);
            desk.when(desk.sentry(11, false), 0, 1, 77);
            for (int n = 1; n <= byStage; n++) {
                desk.on(desk.sentry(10, false), n, 4);
            }
            for (int n = 1; n <= byMilestone; n++) {
                desk.on(desk.sentry(11, false), n, 4);
            }
        };
    }

    private static void movesOfBegin(Due due) {
        boolean sixty = false;
        boolean sixtyOne = false;
        for (int byStage = 0; byStage < 10; byStage++) {
            for (int byMilestone = 0; byMilestone < 10 && byStage + byMilestone <= 14; byMilestone++) {
                int moves = 2 + 9 * 3 + 1 + 1 + 3 * byStage + 2 * byMilestone;
                Twins twins = new Twins(due, nineStages(byStage, byMilestone));
                sixty |= moves == 60;
                sixtyOne |= moves == 61;
                if (moves <= 60) {
                    due.is("begin(60)", twins.desk().begin(60), moves);
                    due.is("begin(" + moves + ")", twins.desk().begin(moves), moves);
                    twins.refuse("one move more than the bound", CUT, desk -> desk.begin(moves - 1));
                } else {
                    twins.refuse(moves + " moves", CUT, desk -> desk.begin(60));
                }
            }
        }
        due.is("just 60 were tried", sixty, true);
        due.is("just 61 were tried", sixtyOne, true);
    }

    /** A SUSPENDED case of 29 tasks and one that waits, whose exits come true at once when it RESUMES. */
    private static Twins.Steps suspended(boolean withListener, int bound) {
        return desk -> {
            desk.item(1, 0, 1);
            if (withListener) {
                desk.item(3, 0, 0);
            }
            desk.on(desk.sentry(1, false), 101, 0);
            desk.on(desk.sentry(1, true), 100, 0);
            desk.begin(bound);
            for (int n = 1; n < 30; n++) {
                desk.set(1, n);
            }
            desk.move(0, 5);
            desk.set(0, 1);
        };
    }

    /** RESUME of the case and 29 tasks, EXIT of 30; without the listener the case completes too. */
    private static void movesOfMove(Due due) {
        due.is("60 moves", new Twins(due, suspended(true, 60)).desk().move(0, 6), 60);
        new Twins(due, suspended(false, 60)).refuse("61 moves", CUT, desk -> desk.move(0, 6));
        new Twins(due, suspended(true, 59)).refuse("60 moves of 59", CUT, desk -> desk.move(0, 6));
    }

    /**
     * Five stages, each with an automatic stage of four listeners that waits for a number: eleven moves
     * each. Then tasks that wait for it too: one move each, or two if one repeats.
     */
    private static Twins.Steps fiveStages(int tasks, int repeating, int bound) {
        return desk -> {
            desk.item(0, 0, 1);
            desk.item(0, 1, 8);
            for (int n = 0; n < 4; n++) {
                desk.item(3, 2, 0);
            }
            desk.on(desk.sentry(1, false), 101, 0);
            desk.when(desk.sentry(2, false), 0, 1, 1);
            for (int n = 0; n < tasks; n++) {
                int task = desk.item(1, 0, n < repeating ? 1 : 0);
                desk.on(desk.sentry(task, false), 100, 0);
            }
            desk.begin(bound);
            for (int n = 1; n < 6; n++) {
                desk.set(1, n);
            }
        };
    }

    private static void movesOfSet(Due due) {
        for (int tasks = 0; tasks <= 5; tasks++) {
            Twins twins = new Twins(due, fiveStages(tasks, 0, 60));
            due.is(55 + tasks + " moves", twins.desk().set(0, 1), 55 + tasks);
        }
        new Twins(due, fiveStages(5, 0, 59)).refuse("60 moves of 59", CUT, desk -> desk.set(0, 1));
        new Twins(due, fiveStages(5, 1, 60)).refuse("61 moves", CUT, desk -> desk.set(0, 1));
        due.is("60 moves with one that repeats", new Twins(due, fiveStages(4, 1, 60)).desk().set(0, 1), 60);
    }

    /** One number sends tasks away: just as many as the bound leave, one more and it is cut off. */
    private static void everyBound(Due due) {
        for (int bound = 4; bound <= 38; bound++) {
            int most = bound;
            Twins.Steps[] made = new Twins.Steps[2];
            for (int more = 0; more < 2; more++) {
                int active = bound - 1 + more;
                made[more] = desk -> {
                    desk.item(1, 0, 1);
                    desk.item(3, 0, 0);
                    desk.on(desk.sentry(1, false), 101, 0);
                    desk.on(desk.sentry(1, true), 100, 0);
                    desk.begin(most);
                    for (int n = 1; n <= active && desk.instances() < 40; n++) {
                        desk.set(1, n);
                    }
                };
            }
            due.is("as many as the bound of " + bound, new Twins(due, made[0]).desk().set(0, 1), bound);
            if (bound < 38) {
                new Twins(due, made[1]).refuse("one more than the bound of " + bound, CUT,
                        desk -> desk.set(0, 1));
            }
        }
    }

    /** A repeating stage of six listeners is let in five times while three empty stages come and go. */
    private static Twins.Steps fortyAtOnce(boolean oneMore) {
        return desk -> {
            desk.item(0, 0, 1);
            for (int n = 2; n < 5; n++) {
                desk.item(0, 0, 0);
            }
            for (int n = 5; n < 11; n++) {
                desk.item(3, 1, 0);
            }
            if (oneMore) {
                desk.item(3, 0, 0);
            }
            desk.on(desk.sentry(1, false), 2, 0);
            desk.on(desk.sentry(1, false), 2, 2);
            for (int n = 2; n < 5; n++) {
                desk.on(desk.sentry(1, false), n, 4);
            }
        };
    }

    private static void instancesOfBegin(Due due) {
        CaseDesk desk = new Twins(due, fortyAtOnce(false)).desk();
        due.is("begin", desk.begin(60), 52);
        due.is("instances()", desk.instances(), 40);
        due.is("the last one's item", desk.instance(39, 0), 10);
        new Twins(due, fortyAtOnce(true)).refuse("a forty-first instance", CUT, d -> d.begin(60));
    }

    private static Twins.Steps repeatingListener(int instances) {
        return desk -> {
            desk.item(3, 0, 1);
            desk.begin(60);
            for (int n = 2; n < instances; n++) {
                desk.move(n - 1, 3);
            }
        };
    }

    private static void instancesOfMove(Due due) {
        CaseDesk desk = new Twins(due, repeatingListener(39)).desk();
        due.is("OCCUR and CREATE", desk.move(38, 3), 2);
        due.is("instances()", desk.instances(), 40);
        Twins forty = new Twins(due, repeatingListener(40));
        forty.refuse("OCCUR and a forty-first instance", CUT, d -> d.move(39, 3));
        due.is("what makes none: EXIT of the listener, COMPLETE of the case", forty.desk().move(39, 9), 2);
        due.is("what makes none: SUSPEND of the case", forty.desk().move(0, 5), 1);
    }

    /** A manual stage of three listeners, and as many instances before it as make it 40, or 41. */
    private static void instancesThatFollowFromStart(Due due) {
        for (int more = 0; more < 2; more++) {
            int before = 37 + more;
            Twins twins = new Twins(due, desk -> {
                desk.item(3, 0, 1);
                desk.item(0, 0, 4);
                for (int n = 0; n < 3; n++) {
                    desk.item(3, 2, 0);
                }
                desk.begin(60);
                for (int n = 3; n < before; n++) {
                    desk.move(n == 3 ? 1 : n - 1, 3);
                }
            });
            due.is("instances()", twins.desk().instances(), before);
            due.is("can START", twins.desk().can(2, 2), true);
            if (more == 0) {
                due.is("START and three CREATE", twins.desk().move(2, 2), 4);
            } else {
                twins.refuse("START and three CREATE, the third too much", CUT, desk -> desk.move(2, 2));
            }
        }
    }

    private static Twins.Steps repeatingTask(int instances) {
        return desk -> {
            desk.item(1, 0, 1);
            desk.item(1, 0, 0);
            desk.on(desk.sentry(1, false), 100, 0);
            desk.on(desk.sentry(2, true), 100, 0);
            desk.on(1, 101, 0);
            desk.begin(60);
            for (int n = 3; n < instances; n++) {
                desk.set(0, n);
            }
        };
    }

    private static void instancesOfSet(Due due) {
        CaseDesk desk = new Twins(due, repeatingTask(39)).desk();
        due.is("CREATE and START", desk.set(0, 0), 2);
        due.is("instances()", desk.instances(), 40);
        Twins forty = new Twins(due, repeatingTask(40));
        forty.refuse("a forty-first instance", CUT, d -> d.set(0, 0));
        due.is("the number that it has", forty.desk().set(0, 39), 0);
        due.is("another variable, EXIT", forty.desk().set(1, 1), 1);
    }

    /** What was done before it came to too much is gone: states, marks, instances, moves, the number. */
    private static void cutOffInTheMidst(Due due) {
        Twins twins = new Twins(due, desk -> {
            desk.item(1, 0, 0);
            desk.item(0, 0, 4);
            desk.item(1, 2, 4);
            desk.item(2, 0, 1);
            desk.item(1, 0, 1);
            desk.on(desk.sentry(1, true), 100, 0);
            desk.on(desk.sentry(4, false), 1, 9);
            desk.on(desk.sentry(5, false), 4, 3);
            desk.on(desk.sentry(4, false), 5, 2);
            desk.on(desk.sentry(2, true), 103, 0);
            desk.begin(40);
            desk.move(2, 2);
        });
        twins.refuse("the first task leaves, then without end", CUT, desk -> desk.set(0, 1));
        twins.refuse("EXIT by a command, then without end", CUT, desk -> desk.move(1, 9));
        due.is("what comes to an end", twins.desk().set(3, 1), 2);
    }

    /** The command made more moves than are remembered before it was cut off. */
    private static void historyIsWholeAgain(Due due) {
        for (int earlier : new int[] {0, 1, 20, 41, 42, 43, 44, 60, 100}) {
            Twins twins = new Twins(due, desk -> {
                desk.item(0, 0, 1);
                desk.item(1, 0, 0);
                desk.when(desk.sentry(1, false), 0, 1, 1);
                desk.begin(60);
                for (int n = 0; n < earlier; n++) {
                    desk.move(2, 5 + n % 2);
                }
            });
            twins.refuse("empty stages without end", CUT, desk -> desk.set(0, 1));
            due.is("moves()", twins.desk().moves(), 5 + earlier);
        }
    }

    /** A command that was cut off is cut off again, as often as it is given. */
    private static void theSameAgain(Due due) {
        Twins begins = new Twins(due, desk -> desk.item(2, 0, 1));
        begins.refuse("begin without end", CUT, desk -> {
            for (int n = 0; n < 200; n++) {
                due.fails("begin", CUT, () -> desk.begin(60));
            }
            desk.begin(60);
        });
        Twins forty = new Twins(due, repeatingTask(40));
        forty.refuse("set", CUT, desk -> {
            for (int n = 0; n < 200; n++) {
                due.fails("set", CUT, () -> desk.set(0, 7));
            }
            desk.set(0, 7);
        });
    }
}
