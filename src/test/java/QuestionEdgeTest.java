/** The boundary cases of promises 9 to 15, the questions; each test names its sentence. */
public final class QuestionEdgeTest {
    private static final Class<UnsupportedOperationException> CUT = UnsupportedOperationException.class;
    private static final int NONE = CaseDesk.NONE;
    private static final int LEAST = Integer.MIN_VALUE;
    private static final int MOST = Integer.MAX_VALUE;

    public static void main(String[] args) {
        Due due = new Due();
        none(due);
        valueOfNoSuchVariable(due);
        howManyInstances(due);
        noSuchInstance(due);
        whatIsNot0To3(due);
        parentOfInstance0(due);
        movesWithCreate(due);
        markedWithNoneOfThese(due);
        markedOfAPartThatIsNotThere(due);
        markedOfAnotherItem(due);
        markedOfAFinalInstance(due);
        canOnAnEmptyDesk(due);
        canTellsNothingOfBeingCutOff(due);
        howManyMoves(due);
        historyOfTheLatest48(due);
        historyOfNone(due);
        historyWhatIsNot0Or1(due);
        questionsChangeNothing(due);
        all512Calls(due);
        due.end();
    }

    private static void none(Due due) {
        due.is("NONE", CaseDesk.NONE, -1);
    }

    /** "0 if there is no such variable", even when every variable has another number. */
    private static void valueOfNoSuchVariable(Due due) {
        CaseDesk desk = new CaseDesk();
        for (int v = 0; v < 4; v++) {
            desk.set(v, 7 + v);
        }
        for (int variable : Edges.outside(0, 3)) {
            due.is("value(" + variable + ")", desk.value(variable), 0);
        }
        due.is("value(100)", desk.value(100), 0);
        for (int v = 0; v < 4; v++) {
            due.is("value(" + v + ")", desk.value(v), 7 + v);
        }
    }

    private static CaseDesk repeatingListener(int times) {
        CaseDesk desk = new CaseDesk();
        desk.item(3, 0, 1);
        desk.begin(60);
        for (int n = 1; n <= times; n++) {
            desk.move(n, 3);
        }
        return desk;
    }

    /** "How many instances there are": none before begin, final ones with the rest, at most 40. */
    private static void howManyInstances(Due due) {
        due.is("a new object", new CaseDesk().instances(), 0);
        CaseDesk described = new CaseDesk();
        described.item(1, 0, 0);
        due.is("what is described is no instance", described.instances(), 0);
        due.fails("begin(3)", CUT, () -> described.begin(3));
        due.is("a begin that was cut off", described.instances(), 0);
        CaseDesk alone = new CaseDesk();
        alone.begin(3);
        due.is("the case alone", alone.instances(), 1);
        for (int times = 0; times <= 38; times++) {
            due.is("a listener that came again " + times + " times", repeatingListener(times).instances(),
                    2 + times);
        }
        CaseDesk full = repeatingListener(38);
        due.fails("one more", CUT, () -> full.move(39, 3));
        due.is("the full desk", full.instances(), 40);
    }

    /** "NONE if there is no such instance": on the empty desk, with few, and with forty. */
    private static void noSuchInstance(Due due) {
        CaseDesk empty = new CaseDesk();
        empty.item(1, 0, 0);
        for (int what = -1; what < 5; what++) {
            for (int k : new int[] {LEAST, -1, 0, 1, 39, 40, MOST}) {
                due.is("instance(" + k + ", " + what + ")", empty.instance(k, what), NONE);
            }
        }
        for (int times : new int[] {0, 37, 38}) {
            CaseDesk desk = repeatingListener(times);
            int last = desk.instances() - 1;
            for (int what = 0; what < 4; what++) {
                for (int k : Edges.outside(0, last)) {
                    due.is("instance(" + k + ", " + what + ")", desk.instance(k, what), NONE);
                }
            }
            due.is("the last one's item", desk.instance(last, 0), 1);
            due.is("the last one's parent", desk.instance(last, 1), 0);
            due.is("the last one's state", desk.instance(last, 2), 0);
            due.is("the last one's moves", desk.instance(last, 3), 1);
        }
    }

    /** "or what isn't 0 .. 3". */
    private static void whatIsNot0To3(Due due) {
        CaseDesk desk = repeatingListener(2);
        for (int what : Edges.outside(0, 3)) {
            for (int k = 0; k < desk.instances(); k++) {
                due.is("instance(" + k + ", " + what + ")", desk.instance(k, what), NONE);
            }
        }
        for (int what = 0; what < 4; what++) {
            due.is("instance(1, " + what + ")", desk.instance(1, what), new int[] {1, 0, 4, 2}[what]);
        }
    }

    /** "1 its parent (NONE for instance 0)", in every state of the case. */
    private static void parentOfInstance0(Due due) {
        CaseDesk desk = repeatingListener(0);
        due.is("the ACTIVE case", desk.instance(0, 1), NONE);
        desk.move(0, 5);
        due.is("the SUSPENDED case", desk.instance(0, 1), NONE);
        desk.move(0, 9);
        due.is("the TERMINATED case", desk.instance(0, 1), NONE);
        due.is("its child's parent", desk.instance(1, 1), 0);
    }

    /** "3 how many moves it has made (CREATE counted)": not those that were cut off. */
    private static void movesWithCreate(Due due) {
        CaseDesk desk = repeatingListener(38);
        due.is("CREATE alone", desk.instance(39, 3), 1);
        due.is("CREATE and OCCUR", desk.instance(38, 3), 2);
        due.is("CREATE and START of the case", desk.instance(0, 3), 2);
        due.fails("OCCUR", CUT, () -> desk.move(39, 3));
        due.is("CREATE alone, after a command that was cut off", desk.instance(39, 3), 1);
        CaseDesk busy = new CaseDesk();
        busy.item(1, 0, 0);
        busy.begin(4);
        for (int n = 0; n < 400; n++) {
            busy.move(1, 5 + n % 2);
        }
        due.is("CREATE, START and 400 more", busy.instance(1, 3), 402);
    }

    /** Of task 1 the first parts of sentries 0 and 15 are marked, of task 2 those of 1 and 14. */
    private static CaseDesk withMarks() {
        CaseDesk desk = new CaseDesk();
        desk.item(1, 0, 0);
        desk.item(1, 0, 0);
        desk.item(3, 0, 0);
        for (int s = 0; s < 16; s++) {
            desk.sentry(s == 0 || s == 15 ? 1 : 2, true);
            desk.on(s, s < 2 || s > 13 ? 3 : 101, 3);
            desk.when(s, 3, 1, 1);
        }
        desk.on(0, 102, 0);
        desk.begin(60);
        desk.move(3, 3);
        return desk;
    }

    /** "false also if there is none of these": no such instance, sentry or part. */
    private static void markedWithNoneOfThese(Due due) {
        CaseDesk desk = withMarks();
        due.is("sentry 0", desk.marked(1, 0, 0), true);
        due.is("sentry 15", desk.marked(1, 15, 0), true);
        for (int k : Edges.outside(0, 3)) {
            due.is("instance " + k, desk.marked(k, 0, 0), false);
        }
        for (int sentry : Edges.outside(0, 15)) {
            due.is("sentry " + sentry, desk.marked(1, sentry, 0), false);
            due.is("sentry " + sentry + ", part 1", desk.marked(1, sentry, 1), false);
        }
        for (int part : Edges.outside(0, 1)) {
            for (int s = 0; s < 16; s++) {
                due.is("part " + part + " of sentry " + s, desk.marked(1, s, part), false);
                due.is("part " + part + " of sentry " + s, desk.marked(2, s, part), false);
            }
        }
        CaseDesk empty = new CaseDesk();
        empty.item(1, 0, 0);
        empty.on(empty.sentry(1, false), 100, 0);
        empty.set(0, 1);
        for (int k : new int[] {LEAST, -1, 0, 1, MOST}) {
            due.is("instance " + k + " before begin", empty.marked(k, 0, 0), false);
        }
    }

    /** A sentry that is there, with no part, one or two: a part that isn't there is never marked. */
    private static void markedOfAPartThatIsNotThere(Due due) {
        CaseDesk desk = new CaseDesk();
        desk.item(1, 0, 0);
        desk.item(3, 0, 0);
        for (int s = 0; s < 3; s++) {
            desk.when(desk.sentry(1, true), 3, 1, 1);
            for (int part = 0; part < s; part++) {
                desk.on(s, 100, 0);
            }
        }
        desk.begin(20);
        desk.set(0, 1);
        for (int s = 0; s < 3; s++) {
            for (int part = 0; part < 2; part++) {
                String what = "part " + part + " of the " + s + " of sentry " + s;
                due.is(what, desk.marked(1, s, part), part < s);
            }
        }
    }

    /** "or the sentry isn't one of its item". */
    private static void markedOfAnotherItem(Due due) {
        CaseDesk desk = withMarks();
        for (int s = 0; s < 16; s++) {
            boolean ofFirst = s == 0 || s == 15;
            due.is("sentry " + s + " of task 1", desk.marked(1, s, 0), ofFirst);
            due.is("sentry " + s + " of task 2", desk.marked(2, s, 0), s == 1 || s == 14);
            due.is("sentry " + s + " of the listener", desk.marked(3, s, 0), false);
            due.is("sentry " + s + " of the case", desk.marked(0, s, 0), false);
        }
    }

    /** "marked for an instance that isn't final": both final states; a FAILED or SUSPENDED one isn't. */
    private static void markedOfAFinalInstance(Due due) {
        int[] moves = {5, 7, 4, 9};
        for (int move : moves) {
            CaseDesk desk = withMarks();
            desk.move(1, move);
            due.is("after move " + move, desk.marked(1, 0, 0), move == 5 || move == 7);
            due.is("the other one's", desk.marked(2, 1, 0), true);
        }
    }

    /** "would throw none of the first three": before begin the first of them. */
    private static void canOnAnEmptyDesk(Due due) {
        CaseDesk desk = new CaseDesk();
        for (int k : new int[] {LEAST, -1, 0, 1, 39, 40, MOST}) {
            for (int move : new int[] {LEAST, -1, 0, 1, 2, 3, 4, 5, 6, 7, 8, 9, 10, MOST}) {
                due.is("can(" + k + ", " + move + ")", desk.can(k, move), false);
            }
        }
    }

    /** The fourth exception doesn't count. */
    private static void canTellsNothingOfBeingCutOff(Due due) {
        CaseDesk desk = repeatingListener(38);
        due.is("can OCCUR", desk.can(39, 3), true);
        due.fails("OCCUR", CUT, () -> desk.move(39, 3));
        due.is("can OCCUR still", desk.can(39, 3), true);
    }

    /** "How many moves the history has": none at first, beyond 48, none of those that were cut off. */
    private static void howManyMoves(Due due) {
        CaseDesk desk = new CaseDesk();
        due.is("a new object", desk.moves(), 0);
        due.fails("begin(2)", CUT, () -> desk.begin(2));
        due.is("a begin that was cut off", desk.moves(), 0);
        desk.begin(3);
        due.is("the case alone", desk.moves(), 3);
        for (int times = 21; times < 26; times++) {
            due.is(times + " times", repeatingListener(times).moves(), 3 + 2 * times);
        }
        CaseDesk full = repeatingListener(38);
        due.fails("one more", CUT, () -> full.move(39, 3));
        due.is("the full desk", full.moves(), 79);
    }

    /** "Move k (from 0, the latest first) of the latest 48": with 47, 48, 49, 96, 97 moves and more. */
    private static void historyOfTheLatest48(Due due) {
        for (int count : new int[] {4, 46, 47, 48, 49, 50, 95, 96, 97, 144, 145}) {
            CaseDesk desk = new CaseDesk();
            desk.item(1, 0, 0);
            desk.item(1, 0, 0);
            desk.begin(6);
            int[][] told = new int[count + 6][];
            int[][] begun = {{0, 0}, {0, 2}, {1, 0}, {2, 0}, {1, 2}, {2, 2}};
            System.arraycopy(begun, 0, told, 0, 6);
            for (int n = 6; n < count; n++) {
                int k = 1 + n % 3 / 2;
                int move = desk.can(k, 5) ? 5 : 6;
                desk.move(k, move);
                told[n] = new int[] {k, move};
            }
            int moves = Math.max(count, 6);
            due.is("moves()", desk.moves(), moves);
            for (int k = 0; k < 60; k++) {
                boolean there = k < 48 && k < moves;
                for (int what = 0; what < 2; what++) {
                    due.is("history(" + k + ", " + what + ") of " + moves, desk.history(k, what),
                            there ? told[moves - 1 - k][what] : NONE);
                }
            }
        }
    }

    /** "NONE if there is none": the empty desk, one beyond the last, and what no history has. */
    private static void historyOfNone(Due due) {
        CaseDesk empty = new CaseDesk();
        CaseDesk few = repeatingListener(0);
        CaseDesk many = repeatingListener(30);
        for (int what = 0; what < 2; what++) {
            for (int k : new int[] {LEAST, LEAST + 1, -49, -48, -2, -1, 48, 49, 63, 96, MOST - 1, MOST}) {
                due.is("history(" + k + ") of none", empty.history(k, what), NONE);
                due.is("history(" + k + ") of 3", few.history(k, what), NONE);
                due.is("history(" + k + ") of 63", many.history(k, what), NONE);
            }
            due.is("history(0) of none", empty.history(0, what), NONE);
            due.is("history(2) of 3", few.history(2, what), 0);
            due.is("history(3) of 3", few.history(3, what), NONE);
            due.is("history(47) of 63", many.history(47, what) >= 0, true);
        }
    }

    /** "or what isn't 0 or 1". */
    private static void historyWhatIsNot0Or1(Due due) {
        CaseDesk desk = repeatingListener(30);
        for (int what : Edges.outside(0, 1)) {
            for (int k = 0; k < 48; k++) {
                due.is("history(" + k + ", " + what + ")", desk.history(k, what), NONE);
            }
        }
        due.is("history(0, 0)", desk.history(0, 0), 31);
        due.is("history(0, 1)", desk.history(0, 1), 0);
    }

    /** Questions, strange ones too, leave all as it was. */
    private static void questionsChangeNothing(Due due) {
        CaseDesk desk = withMarks();
        String before = Snapshot.of(desk);
        int[] strange = {LEAST, -1, 0, 1, 15, 16, 39, 40, 48, 100, MOST};
        for (int a : strange) {
            desk.value(a);
            for (int b : strange) {
                desk.instance(a, b);
                desk.can(a, b);
                desk.history(a, b);
                for (int c : strange) {
                    desk.marked(a, b, c);
                }
            }
        }
        due.same("all answers", Snapshot.of(desk), before);
    }

    /** "An object is used for at most 512 calls": the last of them is answered as the first. */
    private static void all512Calls(Due due) {
        CaseDesk desk = new CaseDesk();
        desk.item(1, 0, 0);
        desk.begin(60);
        for (int call = 3; call <= 510; call++) {
            desk.move(1, call % 2 == 1 ? 5 : 6);
        }
        due.is("call 511", desk.moves(), 4 + 508);
        due.is("call 512", desk.history(47, 1), 5);
        CaseDesk cases = new CaseDesk();
        for (int n = 1; n < 12; n++) {
            cases.item(1, 0, 0);
        }
        cases.begin(60);
        for (int call = 13; call <= 511; call++) {
            cases.move(0, call % 2 == 1 ? 5 : 6);
        }
        due.is("twelve moves a call", cases.moves(), 24 + 499 * 12);
    }
}
