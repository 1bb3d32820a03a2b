/** Promises 5 to 7 and what ANEW means: columns and rows come and go. */
final class ColumnRowBoundaries {
    private static final String SMALL = "column 1;column 5;row 7 1;row 3;put 0 0 1;seen 1 0 0 8;";
    private static final String SIX = "column 1;column 2;column 2;column 2;column 2;column 2;";

    private final Boundary b;

    ColumnRowBoundaries(Boundary boundary) {
        b = boundary;
    }

    void run() {
        anew();
        column();
        row();
        drop();
    }

    private void anew() {
        b.terms(5, "ANEW: THE LOG, SEEN are empty then, the cloth as it is then is the BEGINNING.", () -> {
            ExchequerCloth x = Told.cloth(SMALL);
            x.slide(0, 0, true);
            x.column(3);
            b.due("count(2)", x.count(2), 0);
            b.due("count(3)", x.count(3), 0);
            b.due("differs", x.differs(), 0);
            b.due("at(0, 0, 0), behind the put and the slide", x.at(0, 0, 0), 7);
            b.due("at(0, 0, 1)", x.at(0, 0, 1), 2);
            x.undo();
            b.due("undo brings THE LOG back", x.count(2), 1);
            b.due("and what was SEEN", x.count(3), 1);
            b.due("and the BEGINNING", x.at(0, 0, 1), 1);
        });
        b.terms(5, "ANEW", () -> {
            anew("row", x -> x.row(), 2);
            anew("drop", x -> x.drop(1), 3);
            anew("plain", x -> x.plain(0), 4);
            anew("join", x -> x.join(1, 0), 16);
            anew("doubled", x -> x.doubled(0), 26);
            anew("halve", x -> x.halve(0), 1);
            anew("pay", x -> x.pay(0, 1, 1), 1);
            anew("clear", x -> x.clear(0), 13);
            anew("start", x -> x.start(), 1);
        });
    }

    private void anew(String call, java.util.function.ToLongFunction<ExchequerCloth> act, int want) {
        ExchequerCloth x = Told.cloth(SMALL);
        b.due(call, act.applyAsLong(x), want);
        b.due("moves behind " + call, x.count(2), 0);
        b.due("seen behind " + call, x.count(3), 0);
        b.due("differs behind " + call, x.differs(), 0);
        b.due("acts behind " + call, x.count(4), 1);
        x.undo();
        b.same("undone " + call, State.of(x), State.of(Told.cloth(SMALL)));
    }

    private void column() {
        b.promise(5, "A COLUMN comes above the others, all CELLS of it empty, ANEW: its number", () -> {
            ExchequerCloth x = new ExchequerCloth();
            b.due("the first", x.column(1), 0);
            b.due("the second", x.column(2), 1);
            x.row();
            x.row();
            x.put(false, 0, 1, 9);
            b.due("the third, of 20", x.column(20), 2);
            b.spells(x, "column 1;column 2;column 20;row 0 9 0;row 0 0 0;");
        });
        b.promise(5, "all CELLS of it empty", () -> {
            ExchequerCloth x = Told.cloth("column 1;row 5;row 6;row 7;row 8;");
            for (int c = 1; c < 6; c++) {
                b.due("column(2)", x.column(2), c);
                for (int r = 0; r < 4; r++) {
                    b.due("of(" + r + ", " + c + ")", x.of(r, c), 0);
                    b.due("of(" + r + ", 0)", x.of(r, 0), 5 + r);
                }
            }
        });
        b.promise(5, "all CELLS of it empty", () -> {
            // a column that was there, with COUNTERS, and went by undo or by a text
            ExchequerCloth x = Told.cloth("column 1;column 2;row 5 9;");
            Told.text(x, "column 1;row 5;");
            x.column(3);
            b.due("behind a text", x.of(0, 1), 0);
            x.put(false, 0, 1, 7);
            x.undo();
            x.undo();
            x.column(4);
            b.due("behind undo", x.of(0, 1), 0);
        });
        b.promise(5, "NONE, and nothing happens: no such RATIO", () -> {
            for (int ratio : new int[] {1, 0, -1, 21, Boundary.LEAST, Boundary.MOST}) {
                b.refused(SMALL, "column(" + ratio + ")", x -> x.column(ratio), -1);
            }
        });
        b.promise(5, "(1 for COLUMN 0)", () -> {
            for (int ratio : new int[] {0, -1, 2, 20, 21, Boundary.LEAST, Boundary.MOST}) {
                b.refused(ExchequerCloth::new, "column(" + ratio + ")", x -> x.column(ratio), -1);
            }
            b.due("column(1)", new ExchequerCloth().column(1), 0);
        });
        b.promise(5, "there are 6", () -> {
            b.due("the sixth", Told.cloth("column 1;column 2;column 2;column 2;column 2;").column(20), 5);
            b.refused(SIX + "row 1 2 3 4 5 6;put 0 5 1;", "a seventh", x -> x.column(2), -1);
            b.refused(() -> Told.cloth(SIX), "a seventh without rows", x -> x.column(2), -1);
        });
    }

    private void row() {
        b.promise(6, "A ROW comes, empty, ANEW: its number", () -> {
            ExchequerCloth x = Told.cloth("column 1;column 2;");
            for (int r = 0; r < 4; r++) {
                b.due("row()", x.row(), r);
                b.due("counters(" + r + ")", x.counters(r), 0);
                x.put(false, r, 1, r + 1);
            }
            b.due("of(2, 1)", x.of(2, 1), 3);
        });
        b.promise(6, "empty", () -> {
            ExchequerCloth x = Told.cloth("column 1;row 1;row 2;");
            x.drop(1);
            x.row();
            b.due("where a ROW was dropped", x.of(1, 0), 0);
            x.put(false, 1, 0, 7);
            x.undo();
            x.undo();
            x.row();
            b.due("behind undo", x.of(1, 0), 0);
        });
        b.promise(6, "NONE, and nothing happens: there are 4", () -> {
            b.due("a fourth", Told.cloth("column 1;row 1;row 2;row 3;").row(), 3);
            b.refused("column 1;row 1;row 2;row 3;row 4;put 0 0 1;", "a fifth", x -> x.row(), -1);
        });
        b.promise(6, "no COLUMNS", () -> {
            b.refused(ExchequerCloth::new, "row()", x -> x.row(), -1);
            ExchequerCloth x = new ExchequerCloth();
            x.column(1);
            b.due("with one column", x.row(), 0);
        });
    }

    private void drop() {
        b.promise(7, "A ROW goes (numbers above it are one less), ANEW: its SUM", () -> {
            ExchequerCloth x = Told.cloth("column 1;column 5;row 1 1;row 2 2;row 3 3;row 4 4;");
            b.due("drop(1)", x.drop(1), 12);
            b.spells(x, "column 1;column 5;row 1 1;row 3 3;row 4 4;");
            b.due("drop of the last", x.drop(2), 24);
            b.due("drop of the first", x.drop(0), 6);
            b.spells(x, "column 1;column 5;row 3 3;");
            b.due("drop of the only one", x.drop(0), 18);
            b.due("count(1)", x.count(1), 0);
            b.due("count(0)", x.count(0), 2);
        });
        b.promise(7, "its SUM", () -> {
            ExchequerCloth x = Told.cloth("column 1;column 20;column 20;column 20;column 20;column 20;row 0;"
                + "row 99 99 99 99 99 99;");
            b.due("of an empty ROW", x.drop(0), 0);
            b.due("the greatest", x.drop(0), 333473679);
        });
        b.promise(7, "NONE: no such one", () -> {
            for (int far : Boundary.outside(2)) {
                b.refused(SMALL, "drop(" + far + ")", x -> x.drop(far), -1);
            }
            b.refused(ExchequerCloth::new, "drop(0)", x -> x.drop(0), -1);
        });
    }
}
