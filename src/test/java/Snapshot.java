/** Everything that the questions of a desk answer, as one text. */
final class Snapshot {
    private Snapshot() {
    }

    static String of(CaseDesk desk) {
        StringBuilder text = new StringBuilder("file");
        for (int v = 0; v < 4; v++) {
            text.append(' ').append(desk.value(v));
        }
        text.append("\ninstances ").append(desk.instances()).append('\n');
        for (int k = 0; k < desk.instances(); k++) {
            for (int what = 0; what < 4; what++) {
                text.append(desk.instance(k, what)).append(' ');
            }
            addMarks(text, desk, k);
            addMoves(text, desk, k);
            text.append('\n');
        }
        text.append("moves ").append(desk.moves()).append(':');
        for (int k = 0; k < 48; k++) {
            text.append(' ').append(desk.history(k, 0)).append('/').append(desk.history(k, 1));
        }
        return text.toString();
    }

    private static void addMarks(StringBuilder text, CaseDesk desk, int k) {
        text.append("marked");
        for (int s = 0; s < 16; s++) {
            for (int p = 0; p < 2; p++) {
                if (desk.marked(k, s, p)) {
                    text.append(' ').append(s).append('.').append(p);
                }
            }
        }
    }

    private static void addMoves(StringBuilder text, CaseDesk desk, int k) {
        text.append(" can");
        for (int m = -1; m < 11; m++) {
            if (desk.can(k, m)) {
                text.append(' ').append(m);
            }
        }
    }
}
