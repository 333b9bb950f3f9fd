/**
 * Everything that the questions of a desk, or of the model, answer, as one text. These may be more than
 * the 512 calls for which an object is used; the program doesn't count its calls.
 */
final class Snapshot {
    private interface Question {
        int ask(int a, int b, int c);
    }

    private final StringBuilder text = new StringBuilder();

    private Snapshot() {
    }

    static String of(CaseDesk desk) {
        return new Snapshot().write(desk.instances(), desk.moves(),
                (v, b, c) -> desk.value(v), (k, what, c) -> desk.instance(k, what),
                (k, s, p) -> desk.marked(k, s, p) ? 1 : 0, (k, m, c) -> desk.can(k, m) ? 1 : 0,
                (k, what, c) -> desk.history(k, what));
    }

    static String of(Model model) {
        return new Snapshot().write(model.instances(), model.moves(),
                (v, b, c) -> model.value(v), (k, what, c) -> model.instance(k, what),
                (k, s, p) -> model.marked(k, s, p) ? 1 : 0, (k, m, c) -> model.can(k, m) ? 1 : 0,
                (k, what, c) -> model.history(k, what));
    }

    private String write(int instances, int moves, Question value, Question instance, Question marked,
            Question can, Question history) {
        text.append("file");
        for (int v = 0; v < 4; v++) {
            text.append(' ').append(value.ask(v, 0, 0));
        }
        text.append("\ninstances ").append(instances).append('\n');
        for (int k = 0; k < instances; k++) {
            for (int what = 0; what < 4; what++) {
                text.append(instance.ask(k, what, 0)).append(' ');
            }
            addMarks(marked, k);
            addMoves(can, k);
            text.append('\n');
        }
        text.append("moves ").append(moves).append(':');
        for (int k = 0; k < 48; k++) {
            text.append(' ').append(history.ask(k, 0, 0)).append('/').append(history.ask(k, 1, 0));
        }
        return text.toString();
    }

    private void addMarks(Question marked, int k) {
        text.append("marked");
        for (int s = 0; s < 16; s++) {
            for (int p = 0; p < 2; p++) {
                if (marked.ask(k, s, p) == 1) {
                    text.append(' ').append(s).append('.').append(p);
                }
            }
        }
    }

    private void addMoves(Question can, int k) {
        text.append(" can");
        for (int m = 0; m < 10; m++) {
            if (can.ask(k, m, 0) == 1) {
                text.append(' ').append(m);
            }
        }
    }
}
