import java.util.NoSuchElementException;

/** The boundary cases of promises 1 to 3: a new object, item, sentry; each test names its sentence. */
public final class DescribeEdgeTest {
    private static final Class<IllegalStateException> STATE = IllegalStateException.class;
    private static final Class<IllegalArgumentException> ARGUMENT = IllegalArgumentException.class;

    public static void main(String[] args) {
        Due due = new Due();
        caseAloneIsDescribed(due);
        hasNotBegun(due);
        fileHasZeros(due);
        itemWhenBegun(due);
        itemWhenThereAre12(due);
        kindIsNot0To3(due);
        stageIsNoStage(due);
        flagsAreNot0To15(due);
        flagsHave8AndKindIsNot0(due);
        sentryWhenBegun(due);
        sentryWhenThereAre16(due);
        sentryOfNoItemOrTheCase(due);
        sentryThatItCanNotHave(due);
        sentriesAreAnyItems(due);
        due.end();
    }

    /** "The case alone is described". */
    private static void caseAloneIsDescribed(Due due) {
        Twins twins = new Twins(due, desk -> { });
        twins.refuse("a sentry of the case", ARGUMENT, desk -> desk.sentry(0, false));
        twins.refuse("a sentry of item 1", ARGUMENT, desk -> desk.sentry(1, false));
        twins.refuse("an item in item 1", ARGUMENT, desk -> desk.item(1, 1, 0));
        twins.refuse("an on-part of sentry 0", ARGUMENT, desk -> desk.on(0, 100, 0));
        twins.refuse("an if-part of sentry 0", ARGUMENT, desk -> desk.when(0, 0, 0, 0));
        due.is("the first item is in the case", twins.desk().item(0, 0, 0), 1);
        CaseDesk desk = twins.desk();
        due.is("CREATE, START, COMPLETE of the case alone", desk.begin(60), 3);
        due.is("instances()", desk.instances(), 1);
    }

    /** "it hasn't begun". */
    private static void hasNotBegun(Due due) {
        CaseDesk desk = new CaseDesk();
        due.is("instances()", desk.instances(), 0);
        due.is("moves()", desk.moves(), 0);
        due.is("can(0, 9)", desk.can(0, 9), false);
        due.is("history(0, 0)", desk.history(0, 0), CaseDesk.NONE);
        due.is("instance(0, 2)", desk.instance(0, 2), CaseDesk.NONE);
        due.is("marked(0, 0, 0)", desk.marked(0, 0, 0), false);
        Twins fresh = new Twins(due, d -> { });
        fresh.refuse("move(0, 9)", NoSuchElementException.class, d -> d.move(0, 9));
    }

    /** "the file has zeros": asked for, and in an if-part too. */
    private static void fileHasZeros(Due due) {
        for (int v = 0; v < 4; v++) {
            CaseDesk desk = new CaseDesk();
            due.is("value(" + v + ")", desk.value(v), 0);
            for (int sign = 0; sign < 3; sign++) {
                desk.item(1, 0, 0);
                desk.when(desk.sentry(1 + sign, false), v, sign, 0);
            }
            desk.begin(60);
            due.is("a number less than 0", desk.instance(1, 2), 0);
            due.is("a number equal to 0", desk.instance(2, 2), 2);
            due.is("a number greater than 0", desk.instance(3, 2), 0);
        }
    }

    /** "IllegalStateException: the case has begun", also when it is over, but not when begin was cut off. */
    private static void itemWhenBegun(Due due) {
        Twins begun = new Twins(due, desk -> {
            desk.item(1, 0, 0);
            desk.begin(10);
        });
        begun.refuse("item", STATE, desk -> desk.item(0, 0, 0));
        begun.refuse("an item that is wrong too", STATE, desk -> desk.item(4, 1, 16));
        Twins over = new Twins(due, desk -> desk.begin(3));
        over.refuse("item when the case is COMPLETED", STATE, desk -> desk.item(0, 0, 0));
        CaseDesk cutOff = new CaseDesk();
        due.fails("begin", UnsupportedOperationException.class, () -> cutOff.begin(2));
        due.is("item after a begin that was cut off", cutOff.item(0, 0, 0), 1);
    }

    private static void elevenItems(CaseDesk desk) {
        for (int n = 1; n < 12; n++) {
            desk.item(n < 11 ? 0 : 1, n - 1, 0);
        }
    }

    /** "IllegalStateException: .. or there are 12"; items are numbered 0, 1, .. as they are described. */
    private static void itemWhenThereAre12(Due due) {
        CaseDesk desk = new CaseDesk();
        for (int n = 1; n < 12; n++) {
            due.is("item " + n + ", in the stage before it", desk.item(0, n - 1, 0), n);
        }
        Twins full = new Twins(due, DescribeEdgeTest::elevenItems);
        full.refuse("a thirteenth item", STATE, d -> d.item(1, 0, 0));
        full.refuse("a thirteenth item of no kind", STATE, d -> d.item(-1, 0, 0));
        full.refuse("a thirteenth item in no stage", STATE, d -> d.item(1, 12, 0));
        full.refuse("a thirteenth item with wrong flags", STATE, d -> d.item(1, 0, 8));
        CaseDesk whole = full.desk();
        due.is("a full desk begins", whole.begin(60), 24);
        due.is("the last item has an instance", whole.instance(11, 0), 11);
    }

    /** "IllegalArgumentException: kind isn't 0 .. 3". */
    private static void kindIsNot0To3(Due due) {
        Twins twins = new Twins(due, desk -> desk.item(0, 0, 0));
        for (int kind : Edges.outside(0, 3)) {
            twins.refuse("kind " + kind, ARGUMENT, desk -> desk.item(kind, 0, 0));
            twins.refuse("kind " + kind + " in a stage", ARGUMENT, desk -> desk.item(kind, 1, 7));
        }
        for (int kind = 0; kind < 4; kind++) {
            due.is("kind " + kind, twins.desk().item(kind, 1, 7), 2);
        }
    }

    /** "stage is no item that is a stage": a task, milestone, listener, the item itself, none at all. */
    private static void stageIsNoStage(Due due) {
        Twins twins = new Twins(due, desk -> {
            desk.item(0, 0, 0);
            desk.item(1, 0, 0);
            desk.item(2, 0, 0);
            desk.item(3, 0, 0);
            desk.item(0, 1, 0);
        });
        for (int stage = 2; stage < 5; stage++) {
            int s = stage;
            twins.refuse("an item of kind " + (s - 1), ARGUMENT, desk -> desk.item(0, s, 0));
        }
        for (int stage : Edges.outside(0, 5)) {
            twins.refuse("stage " + stage, ARGUMENT, desk -> desk.item(0, stage, 0));
        }
        for (int stage : new int[] {0, 1, 5}) {
            due.is("stage " + stage, twins.desk().item(1, stage, 0), 6);
        }
        Twins almostFull = new Twins(due, desk -> {
            for (int n = 1; n < 11; n++) {
                desk.item(0, 0, 0);
            }
        });
        almostFull.refuse("the last item in itself", ARGUMENT, desk -> desk.item(0, 11, 0));
        almostFull.refuse("the last item in one that can't be", ARGUMENT, desk -> desk.item(0, 12, 0));
        due.is("the last item in the stage before it", almostFull.desk().item(0, 10, 0), 11);
    }

    /** "flags isn't 0 .. 15". */
    private static void flagsAreNot0To15(Due due) {
        Twins twins = new Twins(due, desk -> { });
        for (int flags : Edges.outside(0, 15)) {
            twins.refuse("flags " + flags, ARGUMENT, desk -> desk.item(0, 0, flags));
            twins.refuse("flags " + flags + " of a task", ARGUMENT, desk -> desk.item(1, 0, flags));
        }
        for (int flags = 0; flags < 16; flags++) {
            due.is("flags " + flags + " of a stage", twins.desk().item(0, 0, flags), 1);
        }
    }

    /** "or has 8 and kind isn't 0". */
    private static void flagsHave8AndKindIsNot0(Due due) {
        Twins twins = new Twins(due, desk -> { });
        for (int kind = 1; kind < 4; kind++) {
            int k = kind;
            for (int flags = 0; flags < 8; flags++) {
                int f = flags;
                due.is("kind " + k + ", flags " + f, twins.desk().item(k, 0, f), 1);
                twins.refuse("kind " + k + ", flags " + (f + 8), ARGUMENT, desk -> desk.item(k, 0, f + 8));
            }
        }
    }

    private static void oneOfEachKind(CaseDesk desk) {
        for (int kind = 0; kind < 4; kind++) {
            desk.item(kind, 0, 0);
        }
    }

    /** "IllegalStateException: the case has begun". */
    private static void sentryWhenBegun(Due due) {
        Twins begun = new Twins(due, desk -> {
            oneOfEachKind(desk);
            desk.begin(60);
        });
        begun.refuse("entry", STATE, desk -> desk.sentry(1, false));
        begun.refuse("exit", STATE, desk -> desk.sentry(2, true));
        begun.refuse("a sentry of no item", STATE, desk -> desk.sentry(5, true));
        begun.refuse("a sentry of the case", STATE, desk -> desk.sentry(0, false));
        begun.refuse("a sentry that it can't have", STATE, desk -> desk.sentry(4, false));
        Twins over = new Twins(due, desk -> {
            desk.item(1, 0, 0);
            desk.begin(10);
            desk.move(0, 9);
        });
        over.refuse("sentry when the case is TERMINATED", STATE, desk -> desk.sentry(1, false));
    }

    /** "IllegalStateException: .. or there are 16"; sentries are numbered 0, 1, .. as they are described. */
    private static void sentryWhenThereAre16(Due due) {
        Twins twins = new Twins(due, desk -> {
            oneOfEachKind(desk);
            for (int n = 0; n < 16; n++) {
                due.is("sentry " + n, desk.sentry(1 + n % 2, n % 4 < 2), n);
            }
        });
        twins.refuse("a seventeenth sentry", STATE, desk -> desk.sentry(1, false));
        twins.refuse("a seventeenth sentry, an exit", STATE, desk -> desk.sentry(1, true));
        twins.refuse("a seventeenth sentry of the case", STATE, desk -> desk.sentry(0, false));
        twins.refuse("a seventeenth sentry of no item", STATE, desk -> desk.sentry(-1, false));
        twins.refuse("a seventeenth sentry that it can't have", STATE, desk -> desk.sentry(4, true));
        due.is("the last sentry takes an on-part", twins.desk().on(15, 100, 0), 1);
        due.is("an item can still be described", twins.desk().item(1, 0, 0), 5);
    }

    /** "IllegalArgumentException: item is no item or the case". */
    private static void sentryOfNoItemOrTheCase(Due due) {
        Twins full = new Twins(due, DescribeEdgeTest::elevenItems);
        for (boolean exit : new boolean[] {false, true}) {
            full.refuse("the case", ARGUMENT, desk -> desk.sentry(0, exit));
            for (int item : Edges.outside(0, 11)) {
                full.refuse("item " + item, ARGUMENT, desk -> desk.sentry(item, exit));
            }
            for (int item = 1; item < 12; item++) {
                due.is("item " + item, full.desk().sentry(item, exit), 0);
            }
        }
    }

    /** "or it can't have such a sentry": a milestone no exit, a listener neither. */
    private static void sentryThatItCanNotHave(Due due) {
        Twins twins = new Twins(due, DescribeEdgeTest::oneOfEachKind);
        twins.refuse("exit of a milestone", ARGUMENT, desk -> desk.sentry(3, true));
        twins.refuse("entry of a listener", ARGUMENT, desk -> desk.sentry(4, false));
        twins.refuse("exit of a listener", ARGUMENT, desk -> desk.sentry(4, true));
        due.is("entry of a stage", twins.desk().sentry(1, false), 0);
        due.is("exit of a stage", twins.desk().sentry(1, true), 0);
        due.is("entry of a task", twins.desk().sentry(2, false), 0);
        due.is("exit of a task", twins.desk().sentry(2, true), 0);
        due.is("entry of a milestone", twins.desk().sentry(3, false), 0);
    }

    /** All sixteen may be of one item: the last entry lets it in, the last exit sends it away. */
    private static void sentriesAreAnyItems(Due due) {
        CaseDesk desk = new CaseDesk();
        desk.item(1, 0, 0);
        for (int n = 0; n < 16; n++) {
            desk.when(desk.sentry(1, n >= 8), 0, 1, n + 1);
        }
        desk.begin(60);
        due.is("no entry is satisfied", desk.instance(1, 2), 0);
        due.is("the last entry is", desk.set(0, 8), 1);
        due.is("it is ACTIVE", desk.instance(1, 2), 2);
        due.is("the last exit is satisfied; the case completes", desk.set(0, 16), 2);
        due.is("it is TERMINATED", desk.instance(1, 2), 5);
    }
}
