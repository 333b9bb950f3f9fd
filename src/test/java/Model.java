import java.util.ArrayList;
import java.util.HashSet;
import java.util.List;
import java.util.NoSuchElementException;
import java.util.Set;

/**
 * The document's words once more, as objects and lists that are copied whole before each command. It
 * shares no code and no way of holding its state with the program, so that the two can be compared.
 */
final class Model {
    enum Kind { STAGE, TASK, MILESTONE, LISTENER }

    enum State { AVAILABLE, ENABLED, ACTIVE, SUSPENDED, COMPLETED, TERMINATED, FAILED }

    enum Move { CREATE, ENABLE, START, OCCUR, COMPLETE, SUSPEND, RESUME, FAIL, RETRY, EXIT }

    private static final class CutOff extends RuntimeException {
        private static final long serialVersionUID = 1L;
    }

    private record Item(int number, Kind kind, Item stage, boolean repeating, boolean required,
            boolean manual, boolean automatic, List<Sentry> sentries) {
        boolean works() {
            return kind == Kind.STAGE || kind == Kind.TASK;
        }

        boolean hasEntry() {
            return sentries.stream().anyMatch(s -> !s.exit);
        }
    }

    private static final class Sentry {
        final Item item;
        final boolean exit;
        final List<Part> parts = new ArrayList<>();
        IfPart ifPart;

        Sentry(Item item, boolean exit) {
            this.item = item;
            this.exit = exit;
        }
    }

    private record Part(Item source, int variable, Move move, int number) {
    }

    private record IfPart(int variable, int sign, int number) {
    }

    private static final class Instance {
        final int number;
        final Item item;
        final int parent;
        State state = State.AVAILABLE;
        int made;
        Set<Part> marks = new HashSet<>();

        Instance(int number, Item item, int parent) {
            this.number = number;
            this.item = item;
            this.parent = parent;
        }

        Instance copy() {
            Instance c = new Instance(number, item, parent);
            c.state = state;
            c.made = made;
            c.marks = new HashSet<>(marks);
            return c;
        }

        boolean isFinal() {
            return state == State.COMPLETED || state == State.TERMINATED;
        }

        boolean waits() {
            return state == State.AVAILABLE || state == State.ENABLED;
        }
    }

    private final List<Item> items = new ArrayList<>();
    private final List<Sentry> sentries = new ArrayList<>();
    private int parts;
    private boolean begun;
    private int bound;
    private int[] file = new int[4];
    private List<Instance> instances = new ArrayList<>();
    private List<int[]> history = new ArrayList<>();
    private int made;

    Model() {
        items.add(new Item(0, Kind.STAGE, null, false, false, false, false, new ArrayList<>()));
    }

    int item(int kind, int stage, int flags) {
        if (begun || items.size() >= 12) {
            throw new IllegalStateException();
        }
        if (kind < 0 || kind > 3 || stage < 0 || stage >= items.size()
                || items.get(stage).kind != Kind.STAGE || flags < 0 || flags > 15 || flags >= 8 && kind != 0) {
            throw new IllegalArgumentException();
        }
        items.add(new Item(items.size(), Kind.values()[kind], items.get(stage), flags % 2 == 1,
                flags / 2 % 2 == 1, flags / 4 % 2 == 1, flags / 8 == 1, new ArrayList<>()));
        return items.size() - 1;
    }

    int sentry(int item, boolean exit) {
        if (begun || sentries.size() >= 16) {
            throw new IllegalStateException();
        }
        if (item < 1 || item >= items.size() || items.get(item).kind == Kind.LISTENER
                || exit && items.get(item).kind == Kind.MILESTONE) {
            throw new IllegalArgumentException();
        }
        Sentry s = new Sentry(items.get(item), exit);
        sentries.add(s);
        s.item.sentries.add(s);
        return sentries.size() - 1;
    }

    int on(int sentry, int source, int move) {
        boolean there = sentry >= 0 && sentry < sentries.size();
        if (begun || there && sentries.get(sentry).parts.size() == 2) {
            throw new IllegalStateException();
        }
        if (!there) {
            throw new IllegalArgumentException();
        }
        Sentry s = sentries.get(sentry);
        if (source >= 100 && source <= 103) {
            s.parts.add(new Part(null, source - 100, null, parts++));
            return s.parts.size();
        }
        if (source < 0 || source >= items.size() || items.get(source) == s.item
                || items.get(source).stage != s.item.stage || move < 0 || move > 9) {
            throw new IllegalArgumentException();
        }
        s.parts.add(new Part(items.get(source), -1, Move.values()[move], parts++));
        return s.parts.size();
    }

    void when(int sentry, int variable, int sign, int number) {
        if (begun) {
            throw new IllegalStateException();
        }
        if (sentry < 0 || sentry >= sentries.size() || variable < 0 || variable > 3 || sign < 0 || sign > 2) {
            throw new IllegalArgumentException();
        }
        sentries.get(sentry).ifPart = new IfPart(variable, sign, number);
    }

    int begin(int newBound) {
        if (begun) {
            throw new IllegalStateException();
        }
        if (newBound < 2 || newBound > 60) {
            throw new IllegalArgumentException();
        }
        bound = newBound;
        int answer = command(() -> {
            create(items.get(0), -1);
            doMove(instances.get(0), Move.START);
        });
        begun = true;
        return answer;
    }

    int move(int instance, int move) {
        if (!begun || instance < 0 || instance >= instances.size()) {
            throw new NoSuchElementException();
        }
        if (move < 2 || move > 9) {
            throw new IllegalArgumentException();
        }
        Instance i = instances.get(instance);
        Move m = Move.values()[move];
        if (!asked(i, m) || m == Move.START && i.state != State.ENABLED
                || m == Move.OCCUR && i.item.kind != Kind.LISTENER
                || m == Move.COMPLETE && i.item.kind == Kind.STAGE && !settled(i)
                || i.parent != -1 && instances.get(i.parent).state != State.ACTIVE) {
            throw new IllegalStateException();
        }
        return command(() -> doMove(instances.get(instance), m));
    }

    int set(int variable, int number) {
        if (variable < 0 || variable > 3) {
            throw new IllegalArgumentException();
        }
        if (!begun) {
            file[variable] = number;
            return 0;
        }
        return command(() -> {
            if (file[variable] == number) {
                return;
            }
            file[variable] = number;
            for (Instance i : instances) {
                for (Sentry s : i.item.sentries) {
                    for (Part p : s.parts) {
                        if (p.variable == variable && !i.isFinal()) {
                            i.marks.add(p);
                        }
                    }
                }
            }
        });
    }

    int value(int variable) {
        return variable < 0 || variable > 3 ? 0 : file[variable];
    }

    int instances() {
        return instances.size();
    }

    int instance(int k, int what) {
        if (k < 0 || k >= instances.size() || what < 0 || what > 3) {
            return -1;
        }
        Instance i = instances.get(k);
        return new int[] {i.item.number, i.parent, i.state.ordinal(), i.made}[what];
    }

    boolean marked(int instance, int sentry, int part) {
        if (instance < 0 || instance >= instances.size() || sentry < 0 || sentry >= sentries.size()) {
            return false;
        }
        Sentry s = sentries.get(sentry);
        Instance i = instances.get(instance);
        return part >= 0 && part < s.parts.size() && !i.isFinal() && i.marks.contains(s.parts.get(part));
    }

    boolean can(int instance, int move) {
        List<Instance> keptInstances = copyInstances();
        List<int[]> keptHistory = new ArrayList<>(history);
        try {
            move(instance, move);
            return true;
        } catch (UnsupportedOperationException e) {
            return true;
        } catch (NoSuchElementException | IllegalArgumentException | IllegalStateException e) {
            return false;
        } finally {
            instances = keptInstances;
            history = keptHistory;
        }
    }

    int moves() {
        return history.size();
    }

    int history(int k, int what) {
        if (k < 0 || k > 47 || k >= history.size() || what < 0 || what > 1) {
            return -1;
        }
        return history.get(history.size() - 1 - k)[what];
    }

    private List<Instance> copyInstances() {
        List<Instance> copy = new ArrayList<>();
        for (Instance i : instances) {
            copy.add(i.copy());
        }
        return copy;
    }

    private int command(Runnable first) {
        int[] keptFile = file.clone();
        List<Instance> keptInstances = copyInstances();
        List<int[]> keptHistory = new ArrayList<>(history);
        made = 0;
        try {
            first.run();
            boolean more = true;
            while (more) {
                more = exitOne() || enterOne() || completeOne();
            }
            return made;
        } catch (CutOff e) {
            file = keptFile;
            instances = keptInstances;
            history = keptHistory;
            throw new UnsupportedOperationException();
        }
    }

    private boolean exitOne() {
        for (Instance i : instances) {
            if (!i.isFinal() && parentActive(i) && satisfied(i, true)) {
                doMove(i, Move.EXIT);
                return true;
            }
        }
        return false;
    }

    private boolean enterOne() {
        for (Instance i : instances) {
            if (i.state == State.AVAILABLE && i.item.kind != Kind.LISTENER && parentActive(i)
                    && (!i.item.hasEntry() || satisfied(i, false))) {
                if (i.item.repeating && i.item.hasEntry()) {
                    create(i.item, i.parent);
                }
                if (i.item.kind == Kind.MILESTONE) {
                    doMove(i, Move.OCCUR);
                } else {
                    doMove(i, i.item.manual ? Move.ENABLE : Move.START);
                }
                return true;
            }
        }
        return false;
    }

    private boolean completeOne() {
        for (Instance i : instances) {
            if (i.state == State.ACTIVE && i.item.kind == Kind.STAGE && done(i)
                    && (i.parent == -1 || parentActive(i))) {
                doMove(i, Move.COMPLETE);
                return true;
            }
        }
        return false;
    }

    private boolean parentActive(Instance i) {
        return i.parent != -1 && instances.get(i.parent).state == State.ACTIVE;
    }

    private boolean satisfied(Instance i, boolean exit) {
        return i.item.sentries.stream().anyMatch(s ->
                s.exit == exit && i.marks.containsAll(s.parts) && (s.ifPart == null || holds(s.ifPart)));
    }

    private boolean holds(IfPart p) {
        return Integer.compare(file[p.variable], p.number) == p.sign - 1;
    }

    private List<Instance> children(Instance stage) {
        List<Instance> found = new ArrayList<>();
        for (Instance i : instances) {
            if (i.parent == stage.number) {
                found.add(i);
            }
        }
        return found;
    }

    private boolean settled(Instance stage) {
        return children(stage).stream().noneMatch(c -> c.state == State.ACTIVE || c.state == State.SUSPENDED
                || c.state == State.FAILED || c.item.required && c.waits());
    }

    private boolean done(Instance stage) {
        return settled(stage)
                && (stage.item.automatic || children(stage).stream().noneMatch(Instance::waits));
    }

    private static boolean asked(Instance i, Move m) {
        State s = i.state;
        return switch (m) {
            case CREATE -> false;
            case ENABLE -> s == State.AVAILABLE && i.item.works();
            case START -> (s == State.AVAILABLE || s == State.ENABLED) && i.item.works();
            case OCCUR -> s == State.AVAILABLE && !i.item.works();
            case COMPLETE, SUSPEND -> s == State.ACTIVE && i.item.works();
            case RESUME -> s == State.SUSPENDED;
            case FAIL -> s == State.ACTIVE && i.item.kind == Kind.TASK;
            case RETRY -> s == State.FAILED && i.item.kind == Kind.TASK;
            case EXIT -> !i.isFinal();
        };
    }

    private static State after(Move m) {
        return switch (m) {
            case CREATE -> State.AVAILABLE;
            case ENABLE -> State.ENABLED;
            case START, RESUME, RETRY -> State.ACTIVE;
            case OCCUR, COMPLETE -> State.COMPLETED;
            case SUSPEND -> State.SUSPENDED;
            case FAIL -> State.FAILED;
            case EXIT -> State.TERMINATED;
        };
    }

    private void create(Item item, int parent) {
        if (instances.size() == 40) {
            throw new CutOff();
        }
        Instance i = new Instance(instances.size(), item, parent);
        instances.add(i);
        doMove(i, Move.CREATE);
    }

    private void doMove(Instance i, Move m) {
        made++;
        if (made > bound) {
            throw new CutOff();
        }
        i.state = after(m);
        i.made++;
        history.add(new int[] {i.number, m.ordinal()});
        for (Instance other : instances) {
            if (other != i && other.parent == i.parent && !other.isFinal()) {
                other.item.sentries.forEach(s -> s.parts.forEach(p -> {
                    if (p.source == i.item && p.move == m) {
                        other.marks.add(p);
                    }
                }));
            }
        }
        if (i.item.kind == Kind.STAGE) {
            followInStage(i, m);
        }
        if ((m == Move.COMPLETE || m == Move.OCCUR) && i.item.repeating && !i.item.hasEntry()
                && parentActive(i)) {
            create(i.item, i.parent);
        }
    }

    private void followInStage(Instance stage, Move m) {
        if (m == Move.START) {
            for (Item item : items) {
                if (item.stage == stage.item) {
                    create(item, stage.number);
                }
            }
        }
        for (Instance c : children(stage)) {
            if ((m == Move.COMPLETE || m == Move.EXIT) && !c.isFinal()) {
                doMove(c, Move.EXIT);
            } else if (m == Move.SUSPEND && c.state == State.ACTIVE) {
                doMove(c, Move.SUSPEND);
            } else if (m == Move.RESUME && c.state == State.SUSPENDED) {
                doMove(c, Move.RESUME);
            }
        }
    }
}
