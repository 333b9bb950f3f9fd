/** The boundary cases of promises 4 and 5: on and when; each test names its sentence. */
public final class PartEdgeTest {
    private static final Class<IllegalStateException> STATE = IllegalStateException.class;
    private static final Class<IllegalArgumentException> ARGUMENT = IllegalArgumentException.class;
    private static final int LEAST = Integer.MIN_VALUE;
    private static final int MOST = Integer.MAX_VALUE;

    public static void main(String[] args) {
        Due due = new Due();
        onWhenBegun(due);
        onWhenTheSentryHasTwo(due);
        onWithNoSuchSentry(due);
        onWithNoSuchSource(due);
        onWithItsOwnItem(due);
        onWithAnItemNotInTheSameStage(due);
        onWithAnItemAndNoMove(due);
        onWithAVariableAndAnyMove(due);
        onCounts(due);
        sameOnPartTwice(due);
        lastPartOfTheLastSentry(due);
        whenBegun(due);
        whenWithNoSuchSentry(due);
        whenWithNoSuchVariable(due);
        whenWithNoSuchSign(due);
        whenAtTheEndsOfInt(due);
        whenInPlaceOfAnother(due);
        due.end();
    }

    /**
     * In the case: stage 1, task 2, milestone 3, listener 4, stage 5. In stage 1: task 6, task 7, stage 8.
     * In stage 5: task 9. In stage 8: task 10, task 11. Sentry 0 is of item 2, 1 of item 6, 2 of item 10.
     */
    private static void described(CaseDesk desk) {
        int[] kinds = {0, 1, 2, 3, 0, 1, 1, 0, 1, 1, 1};
        int[] stages = {0, 0, 0, 0, 0, 1, 1, 1, 5, 8, 8};
        for (int n = 0; n < kinds.length; n++) {
            desk.item(kinds[n], stages[n], 0);
        }
        desk.sentry(2, false);
        desk.sentry(6, false);
        desk.sentry(10, false);
    }

    /** "IllegalStateException: the case has begun", before all that is wrong besides. */
    private static void onWhenBegun(Due due) {
        Twins begun = new Twins(due, desk -> {
            described(desk);
            desk.on(0, 100, 0);
            desk.begin(60);
        });
        begun.refuse("on", STATE, desk -> desk.on(0, 1, 4));
        begun.refuse("on with no such sentry", STATE, desk -> desk.on(3, 1, 4));
        begun.refuse("on with no such source", STATE, desk -> desk.on(0, 104, 4));
        begun.refuse("on with no such move", STATE, desk -> desk.on(0, 1, 10));
        begun.refuse("on with its own item", STATE, desk -> desk.on(0, 2, 4));
    }

    /** "or the sentry has two", before all that is wrong besides; another sentry takes more. */
    private static void onWhenTheSentryHasTwo(Due due) {
        Twins two = new Twins(due, desk -> {
            described(desk);
            desk.on(0, 1, 4);
            desk.on(0, 100, 0);
        });
        two.refuse("a third on-part", STATE, desk -> desk.on(0, 3, 3));
        two.refuse("a third on-part, a variable", STATE, desk -> desk.on(0, 103, 0));
        two.refuse("a third on-part of no source", STATE, desk -> desk.on(0, 104, 0));
        two.refuse("a third on-part of its own item", STATE, desk -> desk.on(0, 2, 0));
        two.refuse("a third on-part of another stage", STATE, desk -> desk.on(0, 6, 0));
        two.refuse("a third on-part of no move", STATE, desk -> desk.on(0, 1, -1));
        two.refuse("an on-part of no sentry", ARGUMENT, desk -> desk.on(3, 1, 4));
        due.is("the next sentry has none", two.desk().on(1, 7, 4), 1);
    }

    /** "IllegalArgumentException: there is no such sentry". */
    private static void onWithNoSuchSentry(Due due) {
        Twins three = new Twins(due, PartEdgeTest::described);
        for (int sentry : Edges.outside(0, 2)) {
            three.refuse("sentry " + sentry, ARGUMENT, desk -> desk.on(sentry, 101, 0));
        }
        Twins full = new Twins(due, PartEdgeTest::sixteenSentries);
        for (int sentry : Edges.outside(0, 15)) {
            full.refuse("sentry " + sentry + " of 16", ARGUMENT, desk -> desk.on(sentry, 101, 0));
        }
        due.is("sentry 0", full.desk().on(0, 1, 0), 1);
        due.is("sentry 15", full.desk().on(15, 2, 0), 1);
    }

    private static void sixteenSentries(CaseDesk desk) {
        desk.item(1, 0, 0);
        desk.item(1, 0, 0);
        for (int n = 0; n < 16; n++) {
            desk.sentry(n < 8 ? 2 : 1, true);
        }
    }

    /** "no such source": an item or 100 + a variable. */
    private static void onWithNoSuchSource(Due due) {
        Twins full = new Twins(due, PartEdgeTest::described);
        for (int source : new int[] {-1, -2, 12, 13, 50, 98, 99, 104, 105, 200, 256, 65536 + 1, 65536 + 100,
            -100, LEAST, LEAST + 1, LEAST + 99, LEAST + 100, LEAST + 103, MOST - 1, MOST}) {
            full.refuse("source " + source, ARGUMENT, desk -> desk.on(0, source, 4));
        }
        for (int source : new int[] {1, 3, 4, 5, 100, 101, 102, 103}) {
            due.is("source " + source, full.desk().on(0, source, 4), 1);
        }
        due.is("the last item", full.desk().on(2, 11, 4), 1);
        Twins few = new Twins(due, desk -> {
            desk.item(1, 0, 0);
            desk.sentry(1, false);
        });
        few.refuse("an item not yet described", ARGUMENT, desk -> desk.on(0, 2, 4));
    }

    /** "the source is an item that is the sentry's own". */
    private static void onWithItsOwnItem(Due due) {
        Twins twins = new Twins(due, PartEdgeTest::described);
        int[] owner = {2, 6, 10};
        for (int s = 0; s < 3; s++) {
            int sentry = s;
            for (int move = 0; move < 10; move++) {
                int m = move;
                twins.refuse("its own item " + owner[s], ARGUMENT, desk -> desk.on(sentry, owner[sentry], m));
            }
        }
    }

    /** "or not in the same stage": the case, the stage around, one inside, one beside, one further in. */
    private static void onWithAnItemNotInTheSameStage(Due due) {
        Twins twins = new Twins(due, PartEdgeTest::described);
        int[][] near = {{1, 3, 4, 5}, {7, 8}, {11}};
        for (int s = 0; s < 3; s++) {
            int sentry = s;
            for (int source = 0; source < 12; source++) {
                int from = source;
                boolean fits = false;
                for (int n : near[s]) {
                    fits |= n == from;
                }
                if (fits) {
                    due.is("source " + from + " of sentry " + s, twins.desk().on(s, from, 0), 1);
                } else {
                    twins.refuse("source " + from + " of sentry " + s, ARGUMENT,
                            desk -> desk.on(sentry, from, 0));
                }
            }
        }
    }

    /** "or an item and move isn't 0 .. 9". */
    private static void onWithAnItemAndNoMove(Due due) {
        Twins twins = new Twins(due, PartEdgeTest::described);
        for (int move : Edges.outside(0, 9)) {
            twins.refuse("move " + move, ARGUMENT, desk -> desk.on(0, 1, move));
        }
        for (int move = 0; move < 10; move++) {
            due.is("move " + move, twins.desk().on(0, 1, move), 1);
        }
    }

    /** "a variable (then the move doesn't count)". */
    private static void onWithAVariableAndAnyMove(Due due) {
        for (int move : new int[] {LEAST, -2, -1, 0, 4, 9, 10, MOST}) {
            for (int v = 0; v < 4; v++) {
                CaseDesk desk = new CaseDesk();
                desk.item(1, 0, 0);
                desk.sentry(1, false);
                due.is("variable " + v + " with move " + move, desk.on(0, 100 + v, move), 1);
                desk.begin(60);
                due.is("set of another variable", desk.set((v + 1) % 4, 1), 0);
                due.is("set of the variable", desk.set(v, 1), 1);
            }
        }
    }

    /** "how many it has then": of each sentry by itself. */
    private static void onCounts(Due due) {
        CaseDesk desk = new CaseDesk();
        sixteenSentries(desk);
        for (int part = 1; part <= 2; part++) {
            for (int s = 0; s < 16; s++) {
                due.is("on-part " + part + " of sentry " + s, desk.on(s, 100, 0), part);
            }
        }
    }

    private static void sameOnPartTwice(Due due) {
        CaseDesk desk = new CaseDesk();
        desk.item(1, 0, 0);
        desk.item(3, 0, 0);
        desk.sentry(1, true);
        due.is("the first on-part", desk.on(0, 2, 3), 1);
        due.is("the same once more", desk.on(0, 2, 3), 2);
        desk.begin(60);
        due.is("one move marks both: OCCUR, EXIT, COMPLETE of the case", desk.move(2, 3), 3);
    }

    /** Both parts of the first and of the last sentry are marked and told of by themselves. */
    private static void lastPartOfTheLastSentry(Due due) {
        for (int s : new int[] {0, 15}) {
            for (int part = 0; part < 2; part++) {
                CaseDesk desk = new CaseDesk();
                sixteenSentries(desk);
                for (int n = 0; n < 16; n++) {
                    desk.on(n, n == s && part == 0 ? 101 : 100, 0);
                    desk.on(n, n == s && part == 1 ? 101 : 100, 0);
                    desk.when(n, 3, 1, 1);
                }
                desk.begin(60);
                desk.set(1, 1);
                int owner = s == 0 ? 2 : 1;
                due.is("sentry " + s + ", part " + part, desk.marked(owner, s, part), true);
                due.is("its other part", desk.marked(owner, s, 1 - part), false);
                due.is("the if-part alone isn't enough", desk.set(3, 1), 0);
                due.is("all parts of both tasks, and the case completes", desk.set(0, 1), 3);
            }
        }
    }

    /** "IllegalStateException: the case has begun", before all that is wrong besides. */
    private static void whenBegun(Due due) {
        Twins begun = new Twins(due, desk -> {
            described(desk);
            desk.when(0, 0, 1, 5);
            desk.begin(60);
        });
        begun.refuse("when", STATE, desk -> desk.when(0, 0, 1, 0));
        begun.refuse("when with no such sentry", STATE, desk -> desk.when(3, 0, 1, 0));
        begun.refuse("when with no such variable", STATE, desk -> desk.when(0, 4, 1, 0));
        begun.refuse("when with no such sign", STATE, desk -> desk.when(0, 0, 3, 0));
    }

    /** An if-part that is there already is not replaced by one that is refused. */
    private static Twins withIfPart(Due due) {
        return new Twins(due, desk -> {
            sixteenSentries(desk);
            for (int n = 0; n < 16; n++) {
                desk.when(n, 1, 1, 5);
            }
        });
    }

    /** "IllegalArgumentException: there is no such sentry". */
    private static void whenWithNoSuchSentry(Due due) {
        Twins full = withIfPart(due);
        for (int sentry : Edges.outside(0, 15)) {
            full.refuse("sentry " + sentry, ARGUMENT, desk -> desk.when(sentry, 0, 1, 0));
        }
        Twins three = new Twins(due, PartEdgeTest::described);
        three.refuse("a sentry not yet described", ARGUMENT, desk -> desk.when(3, 0, 1, 0));
        for (int sentry : new int[] {0, 15}) {
            CaseDesk desk = full.desk();
            desk.when(sentry, 0, 1, 0);
            desk.begin(60);
            due.is("the task of sentry " + sentry + " leaves", desk.instance(sentry == 0 ? 2 : 1, 2), 5);
            due.is("the other one stays", desk.instance(sentry == 0 ? 1 : 2, 2), 2);
        }
    }

    /** "or variable". */
    private static void whenWithNoSuchVariable(Due due) {
        Twins twins = withIfPart(due);
        for (int variable : Edges.outside(0, 3)) {
            twins.refuse("variable " + variable, ARGUMENT, desk -> desk.when(0, variable, 1, 0));
        }
        twins.refuse("a variable as a source", ARGUMENT, desk -> desk.when(0, 100, 1, 0));
        for (int v = 0; v < 4; v++) {
            CaseDesk desk = twins.desk();
            desk.when(0, v, 1, 7);
            desk.begin(60);
            due.is("variable " + v, desk.set(v, 7), 1);
        }
    }

    /** "or sign isn't 0 .. 2". */
    private static void whenWithNoSuchSign(Due due) {
        Twins twins = withIfPart(due);
        for (int sign : Edges.outside(0, 2)) {
            twins.refuse("sign " + sign, ARGUMENT, desk -> desk.when(0, 0, sign, 0));
        }
    }

    /** "sign 0 less than, 1 equal to, 2 greater than", where a difference would be no int. */
    private static void whenAtTheEndsOfInt(Due due) {
        int[] ends = {LEAST, LEAST + 1, -1, 0, 1, MOST - 1, MOST};
        for (int number : ends) {
            for (int value : ends) {
                for (int sign = 0; sign < 3; sign++) {
                    CaseDesk desk = new CaseDesk();
                    desk.item(1, 0, 0);
                    desk.when(desk.sentry(1, false), 2, sign, number);
                    desk.set(2, value);
                    desk.begin(60);
                    int order = Long.compare(value, number);
                    due.is(value + " with sign " + sign + " and " + number, desk.instance(1, 2),
                            order == sign - 1 ? 2 : 0);
                }
            }
        }
    }

    /** "(in place of one that it has)": the last one counts, also if it is the same but for one thing. */
    private static void whenInPlaceOfAnother(Due due) {
        int[][] last = {{1, 1, 5}, {0, 0, 5}, {0, 1, 6}};
        for (int[] l : last) {
            CaseDesk desk = new CaseDesk();
            desk.item(1, 0, 0);
            desk.sentry(1, false);
            desk.when(0, 0, 1, 5);
            desk.when(0, l[0], l[1], l[2]);
            desk.set(0, 5);
            desk.begin(60);
            due.is("the first one counts no more", desk.instance(1, 2), 0);
            due.is("the last one does", desk.set(l[0], l[1] == 0 ? l[2] - 1 : l[2]), 1);
        }
    }
}
