/** Promise 5: when. */
public final class WhenTest {
    private static final Class<IllegalStateException> STATE = IllegalStateException.class;
    private static final Class<IllegalArgumentException> ARGUMENT = IllegalArgumentException.class;

    public static void main(String[] args) {
        Due due = new Due();
        signs(due);
        takesThePlace(due);
        wrongArguments(due);
        notAfterBegin(due);
        ofAnExit(due);
        due.end();
    }

    private static CaseDesk described() {
        CaseDesk desk = new CaseDesk();
        desk.item(1, 0, 0);
        desk.item(3, 0, 0);
        desk.sentry(1, false);
        return desk;
    }

    private static void signs(Due due) {
        int[] numbers = {Integer.MIN_VALUE, -6, -5, -4, 0, 7, Integer.MAX_VALUE};
        for (int sign = 0; sign < 3; sign++) {
            for (int variable = 0; variable < 4; variable++) {
                for (int number : numbers) {
                    CaseDesk desk = described();
                    desk.when(0, variable, sign, -5);
                    desk.set(variable, number);
                    desk.begin(60);
                    boolean holds = sign == 0 ? number < -5 : sign == 1 ? number == -5 : number > -5;
                    due.is("sign " + sign + " with " + number, desk.instance(1, 2), holds ? 2 : 0);
                }
            }
        }
    }

    private static void takesThePlace(Due due) {
        CaseDesk desk = described();
        desk.when(0, 0, 1, 0);
        desk.when(0, 3, 2, 8);
        desk.begin(60);
        due.is("the first if-part counts no more", desk.instance(1, 2), 0);
        due.is("set of the first one's variable", desk.set(0, 1), 0);
        due.is("set to the number", desk.set(3, 8), 0);
        due.is("set above the number", desk.set(3, 9), 1);
        due.is("the task is let in", desk.instance(1, 2), 2);
    }

    private static void wrongArguments(Due due) {
        CaseDesk desk = described();
        for (int wrong : new int[] {-1, 4, 16, Integer.MIN_VALUE, Integer.MAX_VALUE}) {
            due.fails("sentry " + wrong, ARGUMENT, () -> desk.when(wrong, 0, 0, 0));
            due.fails("variable " + wrong, ARGUMENT, () -> desk.when(0, wrong, 0, 0));
            due.fails("sign " + wrong, ARGUMENT, () -> desk.when(0, 0, wrong, 0));
        }
        due.fails("a sentry not yet described", ARGUMENT, () -> desk.when(1, 0, 0, 0));
        due.fails("sign 3", ARGUMENT, () -> desk.when(0, 0, 3, 0));
        desk.begin(60);
        due.is("what was refused is no if-part", desk.instance(1, 2), 2);
    }

    private static void notAfterBegin(Due due) {
        CaseDesk desk = described();
        desk.begin(60);
        due.failsAndKeeps("when after begin", STATE, desk, () -> desk.when(0, 0, 0, 0));
        due.failsAndKeeps("a wrong when after begin", STATE, desk, () -> desk.when(9, 9, 9, 9));
    }

    /** An on-part stays marked until the if-part is true too. */
    private static void ofAnExit(Due due) {
        CaseDesk desk = new CaseDesk();
        desk.item(1, 0, 0);
        desk.item(3, 0, 1);
        desk.on(desk.sentry(1, true), 2, 3);
        desk.when(0, 0, 0, 0);
        desk.begin(60);
        due.is("the listener occurs and comes again", desk.move(2, 3), 2);
        due.is("marked", desk.marked(1, 0, 0), true);
        due.is("the task stays", desk.instance(1, 2), 2);
        due.is("the if-part comes true", desk.set(0, -1), 1);
        due.is("the task is sent away", desk.instance(1, 2), 5);
        due.is("a final instance has no marks", desk.marked(1, 0, 0), false);
    }
}
