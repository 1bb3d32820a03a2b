/** Everything that a cloth answers without being changed, as one text. */
final class State {
    private final StringBuilder all = new StringBuilder();
    private final ExchequerCloth x;

    private State(ExchequerCloth cloth) {
        x = cloth;
    }

    static String of(ExchequerCloth x) {
        State state = new State(x);
        state.addCounts();
        state.addCloth();
        state.addLog();
        state.addSeen();
        return state.all.toString();
    }

    private void add(String what, long... answers) {
        all.append(what);
        for (long answer : answers) {
            all.append(' ').append(answer);
        }
        all.append(';');
    }

    private void addCounts() {
        for (int what = 0; what < 8; what++) {
            add("count" + what, x.count(what));
        }
        for (int c = 0; c < x.count(0); c++) {
            add("column" + c, x.worth(c, 0), x.worth(c, 1), x.worth(c, 2));
        }
    }

    private void addCloth() {
        for (int r = 0; r < x.count(1); r++) {
            add("row" + r, x.sum(r), x.counters(r), x.report(r, -1));
            for (int c = 0; c < x.count(0); c++) {
                add("cell", x.of(r, c), x.at(0, r, c), x.at(x.count(2), r, c));
            }
        }
    }

    private void addLog() {
        for (int i = 0; i < x.count(2); i++) {
            add("move" + i, x.move(i, 0), x.move(i, 1), x.move(i, 2), x.move(i, 3), x.move(i, 4));
        }
        add("log", x.differs(), x.sumAt(0), x.sumAt(x.count(2)), x.spell(-1));
    }

    private void addSeen() {
        for (int k = 0; k < x.count(3); k++) {
            add("seen" + k, x.seen(k, 0), x.seen(k, 1), x.seen(k, 2), x.seen(k, 3), x.seen(k, 4));
        }
        add("inquest", x.wrong(), x.slides(), x.leftOut(), x.times(), x.look(0), x.look(1), x.look(2), x.look(3));
    }
}
