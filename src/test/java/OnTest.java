/** Promise 4: on. */
public final class OnTest {
    private static final Class<IllegalStateException> STATE = IllegalStateException.class;
    private static final Class<IllegalArgumentException> ARGUMENT = IllegalArgumentException.class;

    public static void main(String[] args) {
        Due due = new Due();
        countsAndLimit(due);
        wrongArguments(due);
        notAfterBegin(due);
        bothPartsAreAwaited(due);
        everyMoveIsHeard(due);
        due.end();
    }

    /** Items 1 stage, 2 task, 3 task in the case, 4 task in stage 1; sentry 0 of item 2, 1 of item 4. */
    private static CaseDesk described() {
        CaseDesk desk = new CaseDesk();
        desk.item(0, 0, 0);
        desk.item(1, 0, 0);
        desk.item(1, 0, 0);
        desk.item(1, 1, 0);
        desk.sentry(2, false);
        desk.sentry(4, true);
        return desk;
    }

    private static void countsAndLimit(Due due) {
        CaseDesk desk = described();
        due.is("the first on-part", desk.on(0, 1, 0), 1);
        due.is("the second on-part", desk.on(0, 3, 9), 2);
        due.fails("a third on-part", STATE, () -> desk.on(0, 1, 0));
        due.fails("a third on-part that is wrong too", STATE, () -> desk.on(0, 77, 77));
        due.is("a variable, with any move", desk.on(1, 100, -5), 1);
        due.is("the last variable, with any move", desk.on(1, 103, Integer.MAX_VALUE), 2);
    }

    private static void wrongArguments(Due due) {
        CaseDesk desk = described();
        for (int sentry : new int[] {-1, 2, 16, Integer.MIN_VALUE, Integer.MAX_VALUE}) {
            due.fails("sentry " + sentry, ARGUMENT, () -> desk.on(sentry, 1, 4));
        }
        for (int source : new int[] {-1, 5, 12, 99, 104, Integer.MIN_VALUE, Integer.MAX_VALUE}) {
            due.fails("source " + source, ARGUMENT, () -> desk.on(0, source, 4));
        }
        due.fails("the sentry's own item", ARGUMENT, () -> desk.on(0, 2, 4));
        due.fails("the case", ARGUMENT, () -> desk.on(0, 0, 4));
        due.fails("an item in a stage in this one", ARGUMENT, () -> desk.on(0, 4, 4));
        due.fails("the stage that the item is in", ARGUMENT, () -> desk.on(1, 1, 4));
        due.fails("an item beside that stage", ARGUMENT, () -> desk.on(1, 3, 4));
        for (int move : new int[] {-1, 10, Integer.MIN_VALUE, Integer.MAX_VALUE}) {
            due.fails("move " + move, ARGUMENT, () -> desk.on(0, 1, move));
        }
        due.is("the first on-part after all that was refused", desk.on(0, 3, 4), 1);
    }

    private static void notAfterBegin(Due due) {
        CaseDesk desk = described();
        desk.begin(60);
        due.failsAndKeeps("on after begin", STATE, desk, () -> desk.on(0, 1, 4));
        due.failsAndKeeps("a wrong on after begin", STATE, desk, () -> desk.on(-1, -1, -1));
    }

    private static void bothPartsAreAwaited(Due due) {
        CaseDesk desk = described();
        desk.on(0, 3, 5);
        desk.on(0, 102, 0);
        desk.begin(60);
        due.is("the task waits", desk.instance(2, 2), 0);
        due.is("set of another variable", desk.set(1, 7), 0);
        due.is("set", desk.set(2, 7), 0);
        due.is("the second part is marked", desk.marked(2, 0, 1), true);
        due.is("the first part isn't", desk.marked(2, 0, 0), false);
        due.is("SUSPEND of the source, START of the task", desk.move(3, 5), 2);
        due.is("the task is let in", desk.instance(2, 2), 2);
        due.is("the first part is marked", desk.marked(2, 0, 0), true);
    }

    /** Of ten tasks each hears one move of a manual task; only one task more moves at each command. */
    private static void everyMoveIsHeard(Due due) {
        CaseDesk desk = new CaseDesk();
        for (int m = 0; m < 10; m++) {
            desk.item(1, 0, 0);
        }
        int source = desk.item(1, 0, 5);
        for (int m = 0; m < 10; m++) {
            desk.on(desk.sentry(1 + m, false), source, m);
        }
        desk.begin(60);
        int[] commands = {2, 7, 8, 5, 6, 4};
        heard(due, desk, "1100000000");
        String[] after = {"1110000000", "1110000100", "1110000110", "1110010110", "1110011110", "1110111110"};
        for (int n = 0; n < commands.length; n++) {
            desk.move(11, commands[n]);
            heard(due, desk, after[n]);
        }
        due.is("the repeating source came again", desk.instance(12, 0), 11);
        desk.move(12, 9);
        heard(due, desk, "1110111111");
    }

    private static void heard(Due due, CaseDesk desk, String want) {
        StringBuilder got = new StringBuilder();
        for (int m = 0; m < 10; m++) {
            got.append(desk.marked(1 + m, m, 0) ? 1 : 0);
            due.is("task " + m + " is ACTIVE if it heard its move", desk.instance(1 + m, 2) == 2,
                    desk.marked(1 + m, m, 0));
        }
        due.same("the marked ones", got.toString(), want);
    }
}
