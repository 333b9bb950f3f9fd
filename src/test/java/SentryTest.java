/** Promise 3: sentry. */
public final class SentryTest {
    private static final Class<IllegalStateException> STATE = IllegalStateException.class;
    private static final Class<IllegalArgumentException> ARGUMENT = IllegalArgumentException.class;

    public static void main(String[] args) {
        Due due = new Due();
        whoCanHaveWhich(due);
        numbersAndLimit(due);
        notAfterBegin(due);
        withoutParts(due);
        due.end();
    }

    private static CaseDesk oneOfEachKind() {
        CaseDesk desk = new CaseDesk();
        for (int kind = 0; kind < 4; kind++) {
            desk.item(kind, 0, 0);
        }
        return desk;
    }

    private static void whoCanHaveWhich(Due due) {
        CaseDesk desk = oneOfEachKind();
        for (int item : new int[] {-1, 0, 4, 5, 100, Integer.MIN_VALUE, Integer.MAX_VALUE}) {
            due.fails("entry of " + item, ARGUMENT, () -> desk.sentry(item, false));
            due.fails("exit of " + item, ARGUMENT, () -> desk.sentry(item, true));
        }
        due.fails("exit of a milestone", ARGUMENT, () -> desk.sentry(3, true));
        due.is("entry of a stage", desk.sentry(1, false), 0);
        due.is("exit of a stage", desk.sentry(1, true), 1);
        due.is("entry of a task", desk.sentry(2, false), 2);
        due.is("exit of a task", desk.sentry(2, true), 3);
        due.is("entry of a milestone", desk.sentry(3, false), 4);
    }

    private static void numbersAndLimit(Due due) {
        CaseDesk desk = oneOfEachKind();
        for (int n = 0; n < 16; n++) {
            due.is("sentry " + n, desk.sentry(1 + n % 2, n % 3 == 0), n);
        }
        due.fails("a seventeenth sentry", STATE, () -> desk.sentry(1, false));
        due.fails("a seventeenth sentry that is wrong too", STATE, () -> desk.sentry(0, false));
    }

    private static void notAfterBegin(Due due) {
        CaseDesk desk = oneOfEachKind();
        desk.begin(60);
        due.failsAndKeeps("sentry after begin", STATE, desk, () -> desk.sentry(1, false));
        due.failsAndKeeps("a wrong sentry after begin", STATE, desk, () -> desk.sentry(-1, true));
    }

    /** A sentry without parts waits for nothing: an entry lets in, an exit sends away at once. */
    private static void withoutParts(Due due) {
        CaseDesk desk = new CaseDesk();
        desk.item(1, 0, 0);
        desk.item(1, 0, 0);
        desk.item(3, 0, 0);
        desk.sentry(1, false);
        desk.sentry(2, true);
        due.is("begin", desk.begin(60), 7);
        due.is("the one with the entry", desk.instance(1, 2), 2);
        due.is("the one with the exit", desk.instance(2, 2), 5);
        due.is("it left before the other started", desk.history(0, 0), 1);
    }
}
