/** Counts the answers that are not the ones that are due; a test ends with end(). */
final class Due {
    private int asked;
    private int wrong;

    void is(String what, long got, long want) {
        asked++;
        if (got != want) {
            wrong++;
            System.out.println(what + " answered " + got + ", due is " + want);
        }
    }

    void is(String what, boolean got, boolean want) {
        is(what, got ? 1 : 0, want ? 1 : 0);
    }

    void same(String what, String got, String want) {
        asked++;
        if (!got.equals(want)) {
            wrong++;
            System.out.println(what + ": got\n" + got + "\ndue is\n" + want);
        }
    }

    /** The latest moves, the earliest of them first, are these, written as instance:move. */
    void latest(String what, CaseDesk desk, String want) {
        StringBuilder got = new StringBuilder();
        for (int k = want.split(" ").length - 1; k >= 0; k--) {
            got.append(desk.history(k, 0)).append(':').append(desk.history(k, 1)).append(k > 0 ? " " : "");
        }
        same(what, got.toString(), want);
    }

    /** The call throws just this exception, no subclass of it. */
    void fails(String what, Class<? extends RuntimeException> due, Runnable call) {
        asked++;
        String got = "nothing";
        try {
            call.run();
        } catch (RuntimeException e) {
            got = e.getClass().getName();
        }
        if (!got.equals(due.getName())) {
            wrong++;
            System.out.println(what + " threw " + got + ", due is " + due.getName());
        }
    }

    /** The call throws just this exception, and the desk answers all questions as before. */
    void failsAndKeeps(String what, Class<? extends RuntimeException> due, CaseDesk desk, Runnable call) {
        String before = Snapshot.of(desk);
        fails(what, due, call);
        same(what + " changed the desk", Snapshot.of(desk), before);
    }

    void end() {
        if (asked == 0 || wrong != 0) {
            System.out.println(wrong + " of " + asked + " answers are not as due");
            System.exit(1);
        }
    }
}
