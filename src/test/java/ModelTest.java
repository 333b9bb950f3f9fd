import java.util.NoSuchElementException;
import java.util.Random;

/** Long runs of calls, drawn from fixed seeds, on a desk and on the model: all answers are the same. */
public final class ModelTest {
    private static final int RUNS = 5000;
    private static final int COMMANDS = 120;

    private interface Call {
        long answer();
    }

    private final Random random;
    private final CaseDesk desk = new CaseDesk();
    private final Model model = new Model();
    private final StringBuilder log = new StringBuilder();
    private int items = 1;
    private int sentries;
    private boolean wrong;
    private static int cutOff;
    private static int full;
    private static int longHistory;
    private static int worked;

    private ModelTest(long seed) {
        random = new Random(seed);
    }

    public static void main(String[] args) {
        for (int seed = 0; seed < RUNS; seed++) {
            ModelTest run = new ModelTest(seed);
            run.play();
            if (run.wrong) {
                System.out.println("seed " + seed + ":" + run.log);
                System.exit(1);
            }
        }
        // The runs are worth little if they no longer come to the edges.
        System.out.println("model runs: " + worked + " commands, " + cutOff + " cut off, " + full
                + " with 40 instances, " + longHistory + " with over 48 moves");
        if (cutOff < 1000 || full < 10 || longHistory < 1000) {
            System.exit(1);
        }
    }

    private void play() {
        describe();
        int left = COMMANDS;
        for (; left > 0 && !wrong; left--) {
            command();
            compareSome();
            if (left % 16 == 0) {
                compareAll();
            }
            // Of a case that is over, or couldn't begin, little more can be learnt.
            int state = desk.instance(0, 2);
            left = state == 2 || state == 3 ? left : Math.min(left, 8);
        }
        compareAll();
        full += desk.instances() == 40 ? 1 : 0;
        longHistory += desk.moves() > 48 ? 1 : 0;
    }

    private void describe() {
        int steps = 4 + random.nextInt(40);
        if (random.nextInt(4) != 0) {
            // A listener that comes again keeps the case from completing soon.
            items += both("item(3, 0, 1)", () -> desk.item(3, 0, 1), () -> model.item(3, 0, 1)) ? 1 : 0;
        }
        for (int n = 0; n < steps && !wrong; n++) {
            describeOne();
        }
        int bound = random.nextInt(5) == 0 ? random.nextInt(64) : 40 + random.nextInt(21);
        if (!both("begin(" + bound + ")", () -> desk.begin(bound), () -> model.begin(bound))) {
            both("begin(60)", () -> desk.begin(60), () -> model.begin(60));
        }
    }

    private void describeOne() {
        switch (random.nextInt(8)) {
            case 0: case 1: case 2: {
                int kind = odd() ? any(-1, 4) : random.nextInt(4);
                int stage = odd() ? any(-1, 12) : random.nextInt(3) == 0 ? 0 : random.nextInt(items);
                int likely = random.nextInt(kind == 0 ? 16 : 8) & random.nextInt(16);
                // A repeating milestone that gets no entry would cut every begin off.
                int flags = odd() ? any(-1, 16) : kind == 2 && random.nextInt(4) != 0 ? likely & 6 : likely;
                items += both("item(" + kind + ", " + stage + ", " + flags + ")",
                        () -> desk.item(kind, stage, flags), () -> model.item(kind, stage, flags)) ? 1 : 0;
                break;
            }
            case 3: case 4: {
                int item = odd() ? any(-1, 12) : random.nextInt(items);
                boolean exit = random.nextInt(3) == 0;
                sentries += both("sentry(" + item + ", " + exit + ")",
                        () -> desk.sentry(item, exit), () -> model.sentry(item, exit)) ? 1 : 0;
                break;
            }
            case 5: case 6: {
                int sentry = odd() ? any(-1, 16) : random.nextInt(sentries + 1);
                int source = random.nextInt(4) == 0 ? any(99, 104) : any(-1, items);
                int move = odd() ? any(-1, 10) : random.nextInt(10);
                both("on(" + sentry + ", " + source + ", " + move + ")",
                        () -> desk.on(sentry, source, move), () -> model.on(sentry, source, move));
                break;
            }
            default: {
                int sentry = odd() ? any(-1, 16) : random.nextInt(sentries + 1);
                int variable = odd() ? any(-1, 4) : random.nextInt(4);
                int sign = odd() ? any(-1, 3) : random.nextInt(3);
                int number = any(-1, 2);
                both("when(" + sentry + ", " + variable + ", " + sign + ", " + number + ")", () -> {
                    desk.when(sentry, variable, sign, number);
                    return 0;
                }, () -> {
                    model.when(sentry, variable, sign, number);
                    return 0;
                });
            }
        }
    }

    private void command() {
        worked++;
        int instance = odd() ? any(-1, 41) : random.nextInt(desk.instances() + 1);
        int move = odd() ? any(-1, 10) : 2 + random.nextInt(8);
        if (random.nextInt(4) == 0) {
            int variable = odd() ? any(-1, 4) : random.nextInt(4);
            int number = odd() ? random.nextInt() : any(-2, 2);
            both("set(" + variable + ", " + number + ")",
                    () -> desk.set(variable, number), () -> model.set(variable, number));
            return;
        }
        if (random.nextInt(30) == 0) {
            describeOne();
            return;
        }
        // Mostly a move that can be made, and seldom one that ends or halts much.
        int best = 0;
        for (int n = 0; n < 60 && random.nextInt(40) != 0; n++) {
            int k = random.nextInt(desk.instances() + 1);
            int m = 2 + random.nextInt(8);
            int weight = desk.can(k, m) ? m == 9 || k == 0 && m < 6 ? 1 : 2 : 0;
            if (weight > best) {
                best = weight;
                instance = k;
                move = m;
            }
        }
        boolean endsCase = instance == 0 && (move == 4 || move == 9);
        if (best == 1 && random.nextInt(6) != 0 || endsCase && random.nextInt(20) != 0) {
            return;
        }
        int i = instance;
        int m = move;
        both("move(" + i + ", " + m + ")", () -> desk.move(i, m), () -> model.move(i, m));
    }

    private void compareSome() {
        int k = any(-1, 41);
        int what = any(-1, 4);
        int part = any(-1, 2);
        int sentry = any(-1, 16);
        int move = any(-1, 10);
        int past = any(-1, 49);
        both("can(" + k + ", " + move + ")", () -> desk.can(k, move) ? 1 : 0, () -> model.can(k, move) ? 1 : 0);
        both("instance(" + k + ", " + what + ")", () -> desk.instance(k, what), () -> model.instance(k, what));
        both("marked(" + k + ", " + sentry + ", " + part + ")",
                () -> desk.marked(k, sentry, part) ? 1 : 0, () -> model.marked(k, sentry, part) ? 1 : 0);
        both("history(" + past + ", " + what + ")",
                () -> desk.history(past, what), () -> model.history(past, what));
        both("moves()", desk::moves, model::moves);
        both("instances()", desk::instances, model::instances);
        both("value(" + what + ")", () -> desk.value(what), () -> model.value(what));
    }

    private void compareAll() {
        String got = Snapshot.of(desk);
        String due = Snapshot.of(model);
        if (!got.equals(due)) {
            wrong = true;
            log.append("\nall answers:\n").append(got).append("\ndue is:\n").append(due);
        }
    }

    /** Whether both answered the same without throwing. */
    private boolean both(String call, Call onDesk, Call onModel) {
        String got = outcome(onDesk);
        String due = outcome(onModel);
        log.append('\n').append(call).append(" = ").append(got);
        if (!got.equals(due)) {
            wrong = true;
            log.append(", due is ").append(due);
        }
        cutOff += due.equals("throws UnsupportedOperationException") ? 1 : 0;
        return !got.startsWith("throws");
    }

    private static String outcome(Call call) {
        try {
            return Long.toString(call.answer());
        } catch (NoSuchElementException | IllegalArgumentException | IllegalStateException
                | UnsupportedOperationException e) {
            return "throws " + e.getClass().getSimpleName();
        }
    }

    private boolean odd() {
        return random.nextInt(20) == 0;
    }

    private int any(int from, int to) {
        return from + random.nextInt(to - from + 1);
    }
}
