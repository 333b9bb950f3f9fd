/** Promise 2: item. */
public final class ItemTest {
    private static final Class<IllegalStateException> STATE = IllegalStateException.class;
    private static final Class<IllegalArgumentException> ARGUMENT = IllegalArgumentException.class;

    public static void main(String[] args) {
        Due due = new Due();
        numbersAndLimit(due);
        wrongArguments(due);
        notAfterBegin(due);
        whatIsDescribedIsMade(due);
        due.end();
    }

    private static void numbersAndLimit(Due due) {
        CaseDesk desk = new CaseDesk();
        for (int n = 1; n < 12; n++) {
            due.is("item " + n, desk.item(n % 4, 0, n % 4 == 0 ? 15 : 7), n);
        }
        due.fails("a thirteenth item", STATE, () -> desk.item(1, 0, 0));
        due.fails("a thirteenth item that is wrong too", STATE, () -> desk.item(9, 77, 99));
    }

    private static void wrongArguments(Due due) {
        CaseDesk desk = new CaseDesk();
        desk.item(0, 0, 0);
        desk.item(1, 1, 0);
        desk.item(2, 1, 0);
        desk.item(3, 1, 0);
        for (int kind : new int[] {-1, 4, Integer.MIN_VALUE, Integer.MAX_VALUE}) {
            due.fails("kind " + kind, ARGUMENT, () -> desk.item(kind, 0, 0));
        }
        for (int stage : new int[] {-1, 2, 3, 4, 5, 12, Integer.MIN_VALUE, Integer.MAX_VALUE}) {
            due.fails("stage " + stage, ARGUMENT, () -> desk.item(0, stage, 0));
        }
        for (int flags : new int[] {-1, 16, Integer.MIN_VALUE, Integer.MAX_VALUE}) {
            due.fails("flags " + flags, ARGUMENT, () -> desk.item(0, 0, flags));
        }
        for (int kind = 1; kind < 4; kind++) {
            int k = kind;
            due.fails("AUTOMATIC and kind " + kind, ARGUMENT, () -> desk.item(k, 0, 8));
            due.fails("all flags and kind " + kind, ARGUMENT, () -> desk.item(k, 0, 15));
        }
        due.is("the item after all that was refused", desk.item(0, 1, 15), 5);
        due.is("an item in a stage in a stage", desk.item(3, 5, 7), 6);
    }

    private static void notAfterBegin(Due due) {
        CaseDesk desk = new CaseDesk();
        desk.item(1, 0, 0);
        desk.begin(10);
        due.failsAndKeeps("item after begin", STATE, desk, () -> desk.item(1, 0, 0));
        due.failsAndKeeps("a wrong item after begin", STATE, desk, () -> desk.item(-1, -1, -1));
    }

    private static void whatIsDescribedIsMade(Due due) {
        CaseDesk desk = new CaseDesk();
        desk.item(0, 0, 0);
        desk.item(1, 1, 4);
        desk.item(1, 0, 0);
        desk.item(2, 1, 0);
        desk.item(3, 1, 0);
        due.is("begin", desk.begin(60), 11);
        int[] item = {0, 1, 3, 2, 4, 5};
        int[] parent = {-1, 0, 0, 1, 1, 1};
        int[] state = {2, 2, 2, 1, 4, 0};
        for (int k = 0; k < 6; k++) {
            due.is("item of instance " + k, desk.instance(k, 0), item[k]);
            due.is("parent of instance " + k, desk.instance(k, 1), parent[k]);
            due.is("state of instance " + k, desk.instance(k, 2), state[k]);
        }
    }
}
