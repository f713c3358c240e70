/** All that can be seen of an object, as one text; the object is used up by it. */
final class Dump {
    private final ClaimTriangle shown;
    private final StringBuilder text = new StringBuilder();

    private Dump(ClaimTriangle shown) {
        this.shown = shown;
    }

    static String of(ClaimTriangle x) {
        Dump dump = new Dump(x);
        dump.look();
        dump.add(() -> x.hide(0));
        dump.look();
        dump.takeIn();
        for (int line = 0; line < 2; line++) {
            x.build(line, 12, false, 6);
            dump.look();
            x.build(line, 12, true, 6);
            dump.look();
        }
        dump.strikeAll();
        return dump.text.toString();
    }

    private void look() {
        for (int which = 0; which < 5; which++) {
            int asked = which;
            add(() -> shown.count(asked));
        }
        int size = shown.count(2);
        for (int i = 0; i < size; i++) {
            for (int j = 0; i + j < size; j++) {
                text.append(shown.cell(i, j)).append(' ');
            }
        }
        for (int j = 0; j < size - 1; j++) {
            int asked = j;
            add(() -> shown.factor(Samples.ALL, asked, false));
            add(() -> shown.factor(Samples.LATEST, asked, false));
        }
        for (int method = 0; method < 4; method++) {
            int asked = method;
            add(() -> shown.total(asked, false));
            add(() -> shown.marks(asked));
        }
    }

    // How many are still left out tells at each cell whether it was.
    private void takeIn() {
        int size = shown.count(2);
        for (int i = 0; i < size; i++) {
            for (int j = 0; i + j < size; j++) {
                text.append(shown.leave(i, j, false)).append(' ');
            }
        }
    }

    private void strikeAll() {
        int entries = shown.count(0);
        for (int entry = 0; entry < entries; entry++) {
            int asked = entry;
            add(() -> shown.strike(asked));
        }
    }

    private void add(Checks.Call call) {
        text.append(Checks.outcome(call)).append(' ');
    }
}
