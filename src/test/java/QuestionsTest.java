/** Promises 10 to 12, 14 and 15: instances, instance, marked, moves and history. */
public final class QuestionsTest {
    private static final int[] STRANGE = {-1, Integer.MIN_VALUE, Integer.MAX_VALUE};

    public static void main(String[] args) {
        Due due = new Due();
        instances(due);
        marked(due);
        history(due);
        historyAfterCutOff(due);
        due.end();
    }

    private static void instances(Due due) {
        CaseDesk desk = new CaseDesk();
        desk.item(0, 0, 0);
        desk.item(1, 1, 0);
        desk.item(3, 0, 1);
        due.is("instances() before begin", desk.instances(), 0);
        desk.begin(20);
        due.is("instances()", desk.instances(), 4);
        desk.move(2, 3);
        due.is("instances() with one more", desk.instances(), 5);
        desk.move(3, 5);
        int[][] want = {{0, -1, 2, 2}, {1, 0, 2, 2}, {3, 0, 4, 2}, {2, 1, 3, 3}, {3, 0, 0, 1}};
        for (int k = 0; k < 5; k++) {
            for (int what = 0; what < 4; what++) {
                due.is("instance(" + k + ", " + what + ")", desk.instance(k, what), want[k][what]);
            }
            due.is("what 4", desk.instance(k, 4), CaseDesk.NONE);
            for (int strange : STRANGE) {
                due.is("instance(" + k + ", " + strange + ")", desk.instance(k, strange), CaseDesk.NONE);
                due.is("instance(" + strange + ", 0)", desk.instance(strange, 0), CaseDesk.NONE);
            }
        }
        due.is("an instance that isn't there", desk.instance(5, 0), CaseDesk.NONE);
        due.is("an instance that can't be there", desk.instance(40, 2), CaseDesk.NONE);
    }

    private static void marked(Due due) {
        CaseDesk desk = new CaseDesk();
        desk.item(1, 0, 0);
        desk.item(1, 0, 0);
        desk.item(3, 0, 0);
        desk.on(desk.sentry(1, true), 3, 3);
        desk.on(0, 100, 0);
        desk.on(desk.sentry(2, true), 3, 9);
        desk.on(1, 3, 3);
        desk.begin(20);
        desk.move(3, 3);
        due.is("the first part of its sentry", desk.marked(1, 0, 0), true);
        due.is("the second part of its sentry", desk.marked(1, 0, 1), false);
        due.is("the other's first part", desk.marked(2, 1, 0), false);
        due.is("the other's second part", desk.marked(2, 1, 1), true);
        due.is("not its own sentry", desk.marked(2, 0, 0), false);
        due.is("not its own sentry either", desk.marked(1, 1, 1), false);
        due.is("the case has no sentry", desk.marked(0, 0, 0), false);
        due.is("part 2", desk.marked(1, 0, 2), false);
        due.is("sentry 2", desk.marked(1, 2, 0), false);
        due.is("sentry 16 is not sentry 0", desk.marked(1, 16, 0), false);
        due.is("part 32 is not part 0", desk.marked(1, 0, 32), false);
        due.is("part 2 of sentry 0 is not part 0 of sentry 1", desk.marked(2, 0, 3), false);
        due.is("part -1 of sentry 1 is not part 1 of sentry 0", desk.marked(1, 1, -2), false);
        due.is("an instance that isn't there", desk.marked(4, 0, 0), false);
        due.is("an instance that can't be there", desk.marked(40, 0, 0), false);
        for (int strange : STRANGE) {
            due.is("a strange instance", desk.marked(strange, 0, 0), false);
            due.is("a strange sentry", desk.marked(1, strange, 0), false);
            due.is("a strange part", desk.marked(1, 0, strange), false);
        }
        desk.move(1, 4);
        due.is("one that is final", desk.marked(1, 0, 0), false);
        markedInSentriesSideBySide(due);
    }

    /** Sentries 0 and 1 of one task, sentry 2 of another; each one's first part is marked. */
    private static void markedInSentriesSideBySide(Due due) {
        CaseDesk desk = new CaseDesk();
        desk.item(1, 0, 0);
        desk.item(1, 0, 0);
        for (int item : new int[] {1, 1, 2}) {
            int sentry = desk.sentry(item, true);
            desk.on(sentry, 100, 0);
            desk.on(sentry, 101, 0);
        }
        desk.begin(20);
        desk.set(0, 1);
        for (int k = 0; k < 3; k++) {
            for (int s = 0; s < 3; s++) {
                boolean own = k == 1 && s < 2 || k == 2 && s == 2;
                due.is("marked(" + k + ", " + s + ", 0)", desk.marked(k, s, 0), own);
                for (int part : new int[] {-2, -1, 1, 2, 3, 4}) {
                    due.is("marked(" + k + ", " + s + ", " + part + ")", desk.marked(k, s, part), false);
                }
            }
        }
    }

    /** A task is suspended and resumed until the history is longer than what it still tells. */
    private static void history(Due due) {
        CaseDesk desk = new CaseDesk();
        desk.item(1, 0, 0);
        desk.begin(20);
        due.is("moves()", desk.moves(), 4);
        for (int n = 4; n < 200; n++) {
            desk.move(1, n % 2 == 0 ? 5 : 6);
            due.is("moves()", desk.moves(), n + 1);
            due.is("the latest instance", desk.history(0, 0), 1);
            due.is("the latest move", desk.history(0, 1), n % 2 == 0 ? 5 : 6);
            due.is("the one before", desk.history(1, 1), n == 4 ? 2 : n % 2 == 0 ? 6 : 5);
            due.is("the first one", desk.history(n, 1), n < 48 ? 0 : CaseDesk.NONE);
            due.is("before the first one", desk.history(n + 1, 1), CaseDesk.NONE);
            due.is("the earliest told", desk.history(47, 1) == CaseDesk.NONE, n < 47);
            due.is("one too early", desk.history(48, 1), CaseDesk.NONE);
        }
        due.is("move 152 of 200", desk.history(47, 1), 5);
        due.is("its instance", desk.history(47, 0), 1);
        due.is("what 2", desk.history(0, 2), CaseDesk.NONE);
        for (int strange : STRANGE) {
            due.is("a strange k", desk.history(strange, 0), CaseDesk.NONE);
            due.is("a strange what", desk.history(0, strange), CaseDesk.NONE);
        }
    }

    /** A command that is cut off after more moves than are told takes none of the earlier ones away. */
    private static void historyAfterCutOff(Due due) {
        CaseDesk desk = new CaseDesk();
        desk.item(2, 0, 1);
        desk.item(1, 0, 0);
        desk.when(desk.sentry(1, false), 0, 1, 1);
        desk.item(3, 0, 0);
        desk.begin(60);
        for (int n = 0; n < 60; n++) {
            desk.move(2, n % 2 == 0 ? 5 : 6);
        }
        due.is("moves()", desk.moves(), 66);
        due.failsAndKeeps("set", UnsupportedOperationException.class, desk, () -> desk.set(0, 1));
        due.is("moves() as before", desk.moves(), 66);
        due.is("the latest move", desk.history(0, 1), 6);
        due.is("the earliest told", desk.history(47, 1), 5);
        due.is("SUSPEND", desk.move(2, 5), 1);
        due.is("moves() with one more", desk.moves(), 67);
    }
}
