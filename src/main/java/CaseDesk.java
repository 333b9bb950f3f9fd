import java.util.NoSuchElementException;

/**
 * A desk for a case: items with lives of their own, sentries that let them in or send them away, a
 * small file of numbers, and commands that are worked off wholly or leave nothing behind.
 */
public final class CaseDesk {
    public static final int NONE = -1;

    private static final int MOST_ITEMS = 12;
    private static final int MOST_SENTRIES = 16;
    private static final int MOST_PARTS = 2;
    private static final int MOST_INSTANCES = 40;
    private static final int VARIABLES = 4;
    private static final int LEAST_BOUND = 2;
    private static final int MOST_BOUND = 60;
    private static final int REMEMBERED = 48;

    /** The case is the first item and has the first instance. */
    private static final int CASE = 0;

    /** A source from here on is a variable. */
    private static final int FIRST_VARIABLE_SOURCE = 100;

    private static final int STAGE = 0;
    private static final int TASK = 1;
    private static final int MILESTONE = 2;
    private static final int LISTENER = 3;

    private static final int REPEATING = 1;
    private static final int REQUIRED = 2;
    private static final int MANUAL = 4;
    private static final int AUTOMATIC = 8;
    private static final int ALL_FLAGS = 15;

    private static final int AVAILABLE = 0;
    private static final int ENABLED = 1;
    private static final int ACTIVE = 2;
    private static final int SUSPENDED = 3;
    private static final int COMPLETED = 4;
    private static final int TERMINATED = 5;
    private static final int FAILED = 6;

    private static final int CREATE = 0;
    private static final int ENABLE = 1;
    private static final int START = 2;
    private static final int OCCUR = 3;
    private static final int COMPLETE = 4;
    private static final int SUSPEND = 5;
    private static final int RESUME = 6;
    private static final int FAIL = 7;
    private static final int RETRY = 8;
    private static final int EXIT = 9;

    /** The state that each move, by its number, leads to. */
    private static final int[] STATE_AFTER = {
        AVAILABLE, ENABLED, ACTIVE, COMPLETED, COMPLETED, SUSPENDED, ACTIVE, FAILED, ACTIVE, TERMINATED
    };

    private static final int LESS = 0;
    private static final int EQUAL = 1;
    private static final int GREATER = 2;

    private final Plan plan;
    private final Life life;

    /** What life was before the command that is at work, so that a cut off one leaves nothing behind. */
    private final Life before;

    /** How many moves the command that is at work has made. */
    private int made;

    /** Whether the command that is at work has come to more than it may. */
    private boolean cut;

    public CaseDesk() {
        plan = new Plan();
        life = new Life();
        before = new Life();
    }

    public int item(int kind, int stage, int flags) throws IllegalStateException, IllegalArgumentException {
        if (life.hasBegun() || plan.items == MOST_ITEMS) {
            throw new IllegalStateException("the case has begun, or there are 12 items");
        }
        boolean flagsFit = flags >= 0 && flags <= ALL_FLAGS && ((flags & AUTOMATIC) == 0 || kind == STAGE);
        if (kind < STAGE || kind > LISTENER || !plan.isStage(stage) || !flagsFit) {
            throw new IllegalArgumentException("no such kind, stage or flags");
        }
        return plan.addItem(kind, stage, flags);
    }

    public int sentry(int item, boolean exit) throws IllegalStateException, IllegalArgumentException {
        if (life.hasBegun() || plan.sentries == MOST_SENTRIES) {
            throw new IllegalStateException("the case has begun, or there are 16 sentries");
        }
        if (!plan.mayHaveSentry(item, exit)) {
            throw new IllegalArgumentException("no item that can have such a sentry");
        }
        return plan.addSentry(item, exit);
    }

    public int on(int sentry, int source, int move) throws IllegalStateException, IllegalArgumentException {
        if (life.hasBegun() || plan.hasAllParts(sentry)) {
            throw new IllegalStateException("the case has begun, or the sentry has two on-parts");
        }
        if (!plan.hasSentry(sentry) || !plan.mayHear(sentry, source, move)) {
            throw new IllegalArgumentException("no such sentry, source or move");
        }
        return plan.addPart(sentry, source, move);
    }

    public void when(int sentry, int variable, int sign, int number)
            throws IllegalStateException, IllegalArgumentException {
        if (life.hasBegun()) {
            throw new IllegalStateException("the case has begun");
        }
        if (!plan.hasSentry(sentry) || !isVariable(variable) || sign < LESS || sign > GREATER) {
            throw new IllegalArgumentException("no such sentry, variable or sign");
        }
        plan.putIfPart(sentry, variable, sign, number);
    }

    public int begin(int bound)
            throws IllegalStateException, IllegalArgumentException, UnsupportedOperationException {
        if (life.hasBegun()) {
            throw new IllegalStateException("the case has begun");
        }
        if (bound < LEAST_BOUND || bound > MOST_BOUND) {
            throw new IllegalArgumentException("no such bound");
        }
        openCommand();
        life.bound = bound;
        create(CASE, NONE, 0);
        make(CASE, START, 0);
        return workOff();
    }

    public int move(int instance, int move)
            throws NoSuchElementException, IllegalArgumentException, IllegalStateException,
                    UnsupportedOperationException {
        if (!life.has(instance)) {
            throw new NoSuchElementException("no such instance");
        }
        if (!isCommandMove(move)) {
            throw new IllegalArgumentException("no move for a command");
        }
        if (!mayBeMoved(instance, move)) {
            throw new IllegalStateException("the instance can't make this move now");
        }
        openCommand();
        make(instance, move, 0);
        return workOff();
    }

    public int set(int variable, int number) throws IllegalArgumentException, UnsupportedOperationException {
        if (!isVariable(variable)) {
            throw new IllegalArgumentException("no such variable");
        }
        openCommand();
        if (life.file[variable] != number) {
            life.file[variable] = number;
            markAll(plan.partsHearing(FIRST_VARIABLE_SOURCE + variable, NONE));
        }
        return workOff();
    }

    public int value(int variable) {
        return isVariable(variable) ? life.file[variable] : 0;
    }

    public int instances() {
        return life.count;
    }

    public int instance(int k, int what) {
        if (!life.has(k)) {
            return NONE;
        }
        switch (what) {
            case 0:
                return life.item[k];
            case 1:
                return life.parent[k];
            case 2:
                return life.state[k];
            case 3:
                return life.movesMade[k];
            default:
                return NONE;
        }
    }

    public boolean marked(int instance, int sentry, int part) {
        if (!life.has(instance) || !plan.hasSentry(sentry) || part < 0 || part >= MOST_PARTS) {
            return false;
        }
        return !life.isFinal(instance) && (life.marks[instance] & Plan.partBit(sentry, part)) != 0;
    }

    public boolean can(int instance, int move) {
        return life.has(instance) && isCommandMove(move) && mayBeMoved(instance, move);
    }

    public int moves() {
        return life.moveCount;
    }

    public int history(int k, int what) {
        if (k < 0 || k >= REMEMBERED || k >= life.moveCount) {
            return NONE;
        }
        int place = (life.moveCount - 1 - k) % REMEMBERED;
        switch (what) {
            case 0:
                return life.pastInstance[place];
            case 1:
                return life.pastMove[place];
            default:
                return NONE;
        }
    }

    private static boolean isVariable(int variable) {
        return variable >= 0 && variable < VARIABLES;
    }

    /** CREATE and ENABLE come about by working off alone. */
    private static boolean isCommandMove(int move) {
        return move >= START && move <= EXIT;
    }

    /** Whether a command may have the instance make the move: stricter than what the move itself asks for. */
    private boolean mayBeMoved(int instance, int move) {
        return parentLets(instance) && stateAndKindFit(instance, move);
    }

    private boolean stateAndKindFit(int instance, int move) {
        int state = life.state[instance];
        int kind = plan.kind[life.item[instance]];
        switch (move) {
            case START:
                return state == ENABLED;
            case OCCUR:
                return state == AVAILABLE && kind == LISTENER;
            case COMPLETE:
                return state == ACTIVE && (kind != STAGE || isSettled(instance));
            case SUSPEND:
                return state == ACTIVE;
            case RESUME:
                return state == SUSPENDED;
            case FAIL:
                return state == ACTIVE && kind == TASK;
            case RETRY:
                return state == FAILED;
            case EXIT:
                return !life.isFinal(instance);
            default:
                return false;
        }
    }

    /** The case has no parent that could hold it back. */
    private boolean parentLets(int instance) {
        int parent = life.parent[instance];
        return parent == NONE || life.state[parent] == ACTIVE;
    }

    private void openCommand() {
        before.copyFrom(life);
        made = 0;
        cut = false;
    }

    /**
     * Does the first thing that can be done until there is none: how many moves the whole command made.
     * Every step makes a move or cuts the command off, so there is never more than one step above the
     * greatest bound.
     */
    private int workOff() {
        for (int step = 0; step <= MOST_BOUND && !cut; step++) {
            int leaving = lowestToExit();
            if (leaving != NONE) {
                make(leaving, EXIT, 0);
                continue;
            }
            int entering = lowestToEnter();
            if (entering != NONE) {
                letIn(entering);
                continue;
            }
            int done = lowestToComplete();
            if (done == NONE) {
                return made;
            }
            make(done, COMPLETE, 0);
        }
        life.copyFrom(before);
        throw new UnsupportedOperationException("the command was cut off");
    }

    private int lowestToExit() {
        for (int k = 0; k < life.count; k++) {
            if (!life.isFinal(k) && parentLets(k) && hasSatisfied(k, true)) {
                return k;
            }
        }
        return NONE;
    }

    private int lowestToEnter() {
        for (int k = 0; k < life.count; k++) {
            int item = life.item[k];
            if (life.state[k] == AVAILABLE && plan.kind[item] != LISTENER && parentLets(k)
                    && (!plan.hasEntry(item) || hasSatisfied(k, false))) {
                return k;
            }
        }
        return NONE;
    }

    private int lowestToComplete() {
        for (int k = 0; k < life.count; k++) {
            if (life.state[k] == ACTIVE && plan.kind[life.item[k]] == STAGE && parentLets(k) && isDone(k)) {
                return k;
            }
        }
        return NONE;
    }

    private void letIn(int instance) {
        int item = life.item[instance];
        if (plan.hasFlag(item, REPEATING) && plan.hasEntry(item)) {
            create(item, life.parent[instance], 0);
        }
        if (plan.kind[item] == MILESTONE) {
            make(instance, OCCUR, 0);
        } else {
            make(instance, plan.hasFlag(item, MANUAL) ? ENABLE : START, 0);
        }
    }

    /** Whether one of the exits, or else of the entries, of the instance's item is satisfied for it. */
    private boolean hasSatisfied(int instance, boolean exit) {
        for (int s = 0; s < plan.sentries; s++) {
            if (plan.owner[s] == life.item[instance] && plan.isExit[s] == exit
                    && plan.isSatisfied(s, life.marks[instance], life.file)) {
                return true;
            }
        }
        return false;
    }

    private boolean isSettled(int stage) {
        for (int k = 0; k < life.count; k++) {
            if (life.parent[k] == stage && !life.isFinal(k)
                    && (!life.isWaiting(k) || plan.hasFlag(life.item[k], REQUIRED))) {
                return false;
            }
        }
        return true;
    }

    private boolean isDone(int stage) {
        return isSettled(stage) && (plan.hasFlag(life.item[stage], AUTOMATIC) || !hasWaitingChild(stage));
    }

    private boolean hasWaitingChild(int stage) {
        for (int k = 0; k < life.count; k++) {
            if (life.parent[k] == stage && life.isWaiting(k)) {
                return true;
            }
        }
        return false;
    }

    private void create(int item, int parent, int depth) {
        if (cut || life.count == MOST_INSTANCES) {
            cut = true;
            return;
        }
        make(life.add(item, parent), CREATE, depth);
    }

    /**
     * The instance makes the move, with all that follows from it. What follows goes from a stage to what
     * is in it, so the depth can't pass the number of items.
     */
    private void make(int instance, int move, int depth) {
        if (cut || made == life.bound || depth > MOST_ITEMS) {
            cut = true;
            return;
        }
        made++;
        life.note(instance, move);
        markSiblings(instance, plan.partsHearing(life.item[instance], move));
        if (plan.kind[life.item[instance]] == STAGE) {
            moveWhatIsIn(instance, move, depth + 1);
        }
        if (move == COMPLETE || move == OCCUR) {
            repeat(instance, depth + 1);
        }
    }

    private void markSiblings(int instance, int parts) {
        for (int k = 0; k < life.count; k++) {
            if (k != instance && life.parent[k] == life.parent[instance]) {
                mark(k, parts);
            }
        }
    }

    private void markAll(int parts) {
        for (int k = 0; k < life.count; k++) {
            mark(k, parts);
        }
    }

    /** Marks those of the on-parts that belong to the instance's item. */
    private void mark(int instance, int parts) {
        if (!life.isFinal(instance)) {
            life.marks[instance] |= parts & plan.ownParts[life.item[instance]];
        }
    }

    private void moveWhatIsIn(int stage, int move, int depth) {
        switch (move) {
            case START:
                createWhatIsIn(stage, depth);
                break;
            case COMPLETE:
            case EXIT:
                exitChildren(stage, depth);
                break;
            case SUSPEND:
                moveChildren(stage, ACTIVE, SUSPEND, depth);
                break;
            case RESUME:
                moveChildren(stage, SUSPENDED, RESUME, depth);
                break;
            default:
                break;
        }
    }

    private void createWhatIsIn(int stage, int depth) {
        for (int i = 0; i < plan.items; i++) {
            if (plan.stage[i] == life.item[stage]) {
                create(i, stage, depth);
            }
        }
    }

    private void exitChildren(int stage, int depth) {
        int count = life.count;
        for (int k = 0; k < count; k++) {
            if (life.parent[k] == stage && !life.isFinal(k)) {
                make(k, EXIT, depth);
            }
        }
    }

    private void moveChildren(int stage, int state, int move, int depth) {
        int count = life.count;
        for (int k = 0; k < count; k++) {
            if (life.parent[k] == stage && life.state[k] == state) {
                make(k, move, depth);
            }
        }
    }

    /** With entries a new instance came already when this one was let in. */
    private void repeat(int instance, int depth) {
        int item = life.item[instance];
        if (plan.hasFlag(item, REPEATING) && !plan.hasEntry(item) && parentLets(instance)) {
            create(item, life.parent[instance], depth);
        }
    }

    /** What is described before the case begins: the items and their sentries. */
    private static final class Plan {
        int items;
        final int[] kind = new int[MOST_ITEMS];
        final int[] stage = new int[MOST_ITEMS];
        final int[] flags = new int[MOST_ITEMS];

        /** The bits of all on-parts that the sentries of an item have or may get. */
        final int[] ownParts = new int[MOST_ITEMS];

        int sentries;
        final int[] owner = new int[MOST_SENTRIES];
        final boolean[] isExit = new boolean[MOST_SENTRIES];
        final int[] parts = new int[MOST_SENTRIES];

        /** Of on-part p of sentry s, at place s * MOST_PARTS + p: its source, and the move it waits for. */
        final int[] source = new int[MOST_SENTRIES * MOST_PARTS];
        final int[] awaited = new int[MOST_SENTRIES * MOST_PARTS];

        /** Of the if-parts; a sign of NONE is that of a sentry without one. */
        final int[] sign = new int[MOST_SENTRIES];
        final int[] variable = new int[MOST_SENTRIES];
        final int[] number = new int[MOST_SENTRIES];

        Plan() {
            kind[CASE] = STAGE;
            stage[CASE] = NONE;
            items = 1;
        }

        /** All on-parts together are the 32 bits of an int, so that a set of them is one number. */
        static int partBit(int sentry, int part) {
            return 1 << (sentry * MOST_PARTS + part);
        }

        boolean hasItem(int i) {
            return i >= 0 && i < items;
        }

        boolean isStage(int i) {
            return hasItem(i) && kind[i] == STAGE;
        }

        boolean hasFlag(int i, int flag) {
            return (flags[i] & flag) != 0;
        }

        boolean hasEntry(int i) {
            for (int s = 0; s < sentries; s++) {
                if (owner[s] == i && !isExit[s]) {
                    return true;
                }
            }
            return false;
        }

        int addItem(int newKind, int inStage, int newFlags) {
            kind[items] = newKind;
            stage[items] = inStage;
            flags[items] = newFlags;
            items++;
            return items - 1;
        }

        boolean mayHaveSentry(int i, boolean exit) {
            if (!hasItem(i) || i == CASE) {
                return false;
            }
            return kind[i] == STAGE || kind[i] == TASK || kind[i] == MILESTONE && !exit;
        }

        int addSentry(int i, boolean exit) {
            int added = sentries;
            owner[added] = i;
            isExit[added] = exit;
            sign[added] = NONE;
            for (int p = 0; p < MOST_PARTS; p++) {
                ownParts[i] |= partBit(added, p);
            }
            sentries++;
            return added;
        }

        boolean hasSentry(int s) {
            return s >= 0 && s < sentries;
        }

        boolean hasAllParts(int s) {
            return hasSentry(s) && parts[s] == MOST_PARTS;
        }

        /** Whether the source is one that an on-part of the sentry can have, with this move. */
        boolean mayHear(int s, int newSource, int move) {
            if (newSource >= FIRST_VARIABLE_SOURCE) {
                return isVariable(newSource - FIRST_VARIABLE_SOURCE);
            }
            return hasItem(newSource) && newSource != owner[s] && stage[newSource] == stage[owner[s]]
                    && move >= CREATE && move <= EXIT;
        }

        int addPart(int s, int newSource, int move) {
            int place = s * MOST_PARTS + parts[s];
            source[place] = newSource;
            awaited[place] = newSource >= FIRST_VARIABLE_SOURCE ? NONE : move;
            parts[s]++;
            return parts[s];
        }

        void putIfPart(int s, int newVariable, int newSign, int newNumber) {
            variable[s] = newVariable;
            sign[s] = newSign;
            number[s] = newNumber;
        }

        /** The bits of all on-parts that wait for this move of this source; NONE is the move of a variable. */
        int partsHearing(int movedSource, int move) {
            int bits = 0;
            for (int s = 0; s < sentries; s++) {
                for (int p = 0; p < parts[s]; p++) {
                    int place = s * MOST_PARTS + p;
                    if (source[place] == movedSource && awaited[place] == move) {
                        bits |= partBit(s, p);
                    }
                }
            }
            return bits;
        }

        boolean isSatisfied(int s, int marks, int[] file) {
            for (int p = 0; p < parts[s]; p++) {
                if ((marks & partBit(s, p)) == 0) {
                    return false;
                }
            }
            return ifPartHolds(s, file);
        }

        private boolean ifPartHolds(int s, int[] file) {
            int value = file[variable[s]];
            switch (sign[s]) {
                case LESS:
                    return value < number[s];
                case EQUAL:
                    return value == number[s];
                case GREATER:
                    return value > number[s];
                default:
                    return true;
            }
        }
    }

    /** What commands change: the instances, the file and the history. */
    private static final class Life {
        /** The bound of every command; it counts only once the case has begun. */
        int bound;

        int count;
        final int[] item = new int[MOST_INSTANCES];
        final int[] parent = new int[MOST_INSTANCES];
        final int[] state = new int[MOST_INSTANCES];
        final int[] movesMade = new int[MOST_INSTANCES];

        /** The bits of the on-parts that are marked for each instance. */
        final int[] marks = new int[MOST_INSTANCES];

        final int[] file = new int[VARIABLES];

        /** Move number m is at place m % REMEMBERED until a later one takes that place. */
        int moveCount;
        final int[] pastInstance = new int[REMEMBERED];
        final int[] pastMove = new int[REMEMBERED];

        boolean hasBegun() {
            return count > 0;
        }

        boolean has(int k) {
            return k >= 0 && k < count;
        }

        boolean isFinal(int k) {
            return state[k] == COMPLETED || state[k] == TERMINATED;
        }

        boolean isWaiting(int k) {
            return state[k] == AVAILABLE || state[k] == ENABLED;
        }

        /** A place beyond the count holds no marks and no moves, even after a command was cut off. */
        int add(int newItem, int newParent) {
            item[count] = newItem;
            parent[count] = newParent;
            count++;
            return count - 1;
        }

        /** floorMod finds a place even if the count has gone round, after far more calls than are promised. */
        void note(int k, int move) {
            int place = Math.floorMod(moveCount, REMEMBERED);
            state[k] = STATE_AFTER[move];
            movesMade[k]++;
            pastInstance[place] = k;
            pastMove[place] = move;
            moveCount++;
        }

        /** The rows are copied whole, so that the places beyond the count are empty again too. */
        void copyFrom(Life other) {
            bound = other.bound;
            count = other.count;
            System.arraycopy(other.item, 0, item, 0, MOST_INSTANCES);
            System.arraycopy(other.parent, 0, parent, 0, MOST_INSTANCES);
            System.arraycopy(other.state, 0, state, 0, MOST_INSTANCES);
            System.arraycopy(other.movesMade, 0, movesMade, 0, MOST_INSTANCES);
            System.arraycopy(other.marks, 0, marks, 0, MOST_INSTANCES);
            System.arraycopy(other.file, 0, file, 0, VARIABLES);
            moveCount = other.moveCount;
            System.arraycopy(other.pastInstance, 0, pastInstance, 0, REMEMBERED);
            System.arraycopy(other.pastMove, 0, pastMove, 0, REMEMBERED);
        }
    }
}
