/**
 * Two desks that are made alike, one of which refuses a call or is cut off: from then on both answer
 * alike, whatever is asked, described and done. So a refused call that leaves something behind is found
 * even where no question tells of it, as with an on-part.
 */
final class Twins {
    interface Steps {
        void on(CaseDesk desk);
    }

    private interface Call {
        int answer();
    }

    private static final int[] NUMBERS = {1, Integer.MIN_VALUE, Integer.MAX_VALUE, -1, 5};
    private static final int[][] ROUNDS = {{2, 5, 6}, {7, 8, 3, 2}, {4, 9}};

    private final Due due;
    private final Steps made;
    private StringBuilder log;

    Twins(Due due, Steps made) {
        this.due = due;
        this.made = made;
    }

    CaseDesk desk() {
        CaseDesk desk = new CaseDesk();
        made.on(desk);
        return desk;
    }

    /** The call throws just this exception and changes nothing that could ever be seen. */
    void refuse(String what, Class<? extends RuntimeException> exception, Steps call) {
        CaseDesk[] refusing = {desk(), desk()};
        for (CaseDesk desk : refusing) {
            due.fails(what, exception, () -> call.on(desk));
        }
        due.same(what + ", then", goOn(refusing[0], false), goOn(desk(), false));
        due.same(what + ", then described on", goOn(refusing[1], true), goOn(desk(), true));
    }

    private String goOn(CaseDesk desk, boolean describing) {
        log = new StringBuilder(Snapshot.of(desk));
        if (describing) {
            describeAll(desk);
        }
        add(() -> desk.begin(60));
        log.append('\n').append(Snapshot.of(desk));
        for (int round = 0; round < ROUNDS.length; round++) {
            setAll(desk, round);
            moveAll(desk, ROUNDS[round]);
            log.append('\n').append(Snapshot.of(desk));
        }
        return log.toString();
    }

    /** Describes until nothing more is taken, so that all that is there already is counted. */
    private void describeAll(CaseDesk desk) {
        for (int n = 0; n < 12; n++) {
            int kind = n % 4;
            add(() -> desk.item(kind, 0, 0));
        }
        for (int n = 0; n < 17; n++) {
            int item = 1 + n % 11;
            add(() -> desk.sentry(item, item % 2 == 0));
        }
        for (int n = 0; n < 48; n++) {
            int sentry = n % 16;
            int source = 100 + n % 4;
            add(() -> desk.on(sentry, source, 0));
        }
    }

    private void setAll(CaseDesk desk, int round) {
        for (int v = 0; v < 4; v++) {
            int variable = v;
            add(() -> desk.set(variable, NUMBERS[(variable + round) % NUMBERS.length]));
        }
    }

    private void moveAll(CaseDesk desk, int[] moves) {
        int count = desk.instances();
        for (int k = count - 1; k >= 0; k--) {
            int instance = k;
            for (int move : moves) {
                add(() -> desk.move(instance, move));
            }
        }
    }

    private void add(Call call) {
        log.append(' ');
        try {
            log.append(call.answer());
        } catch (RuntimeException e) {
            log.append(e.getClass().getSimpleName());
        }
    }
}
