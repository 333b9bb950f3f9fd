/** Promise 1: the case alone is described, it hasn't begun, the file has zeros. */
public final class NewObjectTest {
    public static void main(String[] args) {
        Due due = new Due();
        nothingIsThere(due);
        caseAlone(due);
        desksAreApart(due);
        due.end();
    }

    private static void nothingIsThere(Due due) {
        CaseDesk desk = new CaseDesk();
        for (int v = 0; v < 4; v++) {
            due.is("value(" + v + ")", desk.value(v), 0);
        }
        due.is("instances()", desk.instances(), 0);
        due.is("moves()", desk.moves(), 0);
        for (int what = 0; what < 4; what++) {
            due.is("instance(0, " + what + ")", desk.instance(0, what), CaseDesk.NONE);
        }
        due.is("history(0, 0)", desk.history(0, 0), CaseDesk.NONE);
        due.is("history(0, 1)", desk.history(0, 1), CaseDesk.NONE);
        due.is("can(0, 9)", desk.can(0, 9), false);
        due.is("marked(0, 0, 0)", desk.marked(0, 0, 0), false);
        due.is("the first item described", desk.item(1, 0, 0), 1);
        due.is("the first sentry described", desk.sentry(1, false), 0);
    }

    private static void caseAlone(Due due) {
        CaseDesk desk = new CaseDesk();
        due.is("begin of the case alone: CREATE, START, COMPLETE", desk.begin(3), 3);
        due.is("instances()", desk.instances(), 1);
        due.is("its state", desk.instance(0, 2), 4);
    }

    private static void desksAreApart(Due due) {
        CaseDesk one = new CaseDesk();
        CaseDesk other = new CaseDesk();
        one.item(1, 0, 0);
        one.set(0, 5);
        one.begin(10);
        due.is("the other desk's value", other.value(0), 0);
        due.is("the other desk's instances", other.instances(), 0);
        due.is("the other desk's first item", other.item(0, 0, 0), 1);
    }
}
