import java.util.Random;

/**
 * "a call that throws changes nothing": of two desks one gets every call of a run, the other only those
 * that the first one didn't refuse; all their answers are the same. The runs are drawn from fixed seeds.
 */
public final class RefusedRunsTest {
    private static final int RUNS = 1500;
    private static final int CALLS = 160;
    private static final int[] STRANGE = {
        Integer.MIN_VALUE, -1, 4, 10, 12, 16, 40, 61, 99, 104, Integer.MAX_VALUE
    };

    private interface Call {
        int answer(CaseDesk desk);
    }

    private final Random random;
    private final CaseDesk every = new CaseDesk();
    private final CaseDesk accepted = new CaseDesk();
    private final StringBuilder log = new StringBuilder();
    private boolean wrong;
    private static int refused;
    private static int cutOff;

    private RefusedRunsTest(long seed) {
        random = new Random(seed);
    }

    public static void main(String[] args) {
        for (int seed = 0; seed < RUNS; seed++) {
            RefusedRunsTest run = new RefusedRunsTest(seed);
            run.play();
            if (run.wrong) {
                System.out.println("seed " + seed + ":" + run.log);
                System.exit(1);
            }
        }
        System.out.println("refused runs: " + refused + " refused, " + cutOff + " cut off");
        // The runs are worth little if nothing is refused any more.
        if (refused < 10000 || cutOff < 500) {
            System.exit(1);
        }
    }

    private void play() {
        int describing = 10 + random.nextInt(40);
        for (int n = 0; n < CALLS && !wrong; n++) {
            if (n < describing || random.nextInt(12) == 0) {
                describe();
            } else if (n == describing || random.nextInt(12) == 0) {
                int bound = some(20, 61);
                call("begin(" + bound + ")", desk -> desk.begin(bound));
            } else {
                command();
            }
            if (n % 8 == 0 || n == CALLS - 1) {
                compare();
            }
        }
    }

    private void describe() {
        int a = some(0, 12);
        int b = some(0, 3);
        int c = some(0, 9);
        switch (random.nextInt(8)) {
            case 0: case 1:
                int flags = some(0, 7);
                call("item(" + b + ", " + a + ", " + flags + ")", desk -> desk.item(b, a, flags));
                break;
            case 2:
                call("item(" + b + ", 0, " + c + ")", desk -> desk.item(b, 0, c));
                break;
            case 3: case 4:
                boolean exit = random.nextInt(3) == 0;
                call("sentry(" + a + ", " + exit + ")", desk -> desk.sentry(a, exit));
                break;
            case 5:
                call("on(" + a + ", " + c + ", " + b + ")", desk -> desk.on(a, c, b));
                break;
            case 6:
                call("on(" + a + ", 100 + " + b + ", 0)", desk -> desk.on(a, 100 + b, 0));
                break;
            default:
                int sign = some(0, 2);
                call("when(" + a + ", " + b + ", " + sign + ", " + (c - 5) + ")", desk -> {
                    desk.when(a, b, sign, c - 5);
                    return 0;
                });
        }
    }

    private void command() {
        if (random.nextInt(3) == 0) {
            int variable = some(0, 3);
            int number = some(-3, 3);
            call("set(" + variable + ", " + number + ")", desk -> desk.set(variable, number));
            return;
        }
        int instance = some(0, Math.max(0, every.instances() - 1));
        int move = some(2, random.nextInt(4) == 0 ? 9 : 8);
        call("move(" + instance + ", " + move + ")", desk -> desk.move(instance, move));
    }

    private void call(String what, Call call) {
        log.append('\n').append(what);
        int answer;
        try {
            answer = call.answer(every);
        } catch (UnsupportedOperationException e) {
            cutOff++;
            log.append(" was cut off");
            return;
        } catch (RuntimeException e) {
            refused++;
            log.append(" was refused");
            return;
        }
        int due;
        try {
            due = call.answer(accepted);
        } catch (RuntimeException e) {
            wrong = true;
            log.append(" = ").append(answer).append(", without the refused calls: ").append(e);
            return;
        }
        log.append(" = ").append(answer);
        if (answer != due) {
            wrong = true;
            log.append(", without the refused calls: ").append(due);
        }
    }

    private void compare() {
        String got = Snapshot.of(every);
        String due = Snapshot.of(accepted);
        if (!got.equals(due)) {
            wrong = true;
            log.append("\nall answers:\n").append(got).append("\nwithout the refused calls:\n").append(due);
        }
    }

    /** Mostly a number of the range, sometimes a strange one. */
    private int some(int first, int last) {
        return random.nextInt(15) == 0 ? STRANGE[random.nextInt(STRANGE.length)]
                : first + random.nextInt(last - first + 1);
    }
}
