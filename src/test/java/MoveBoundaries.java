/** Promises 8 to 12 and the terms of MOVES and SLIDES: what can be made, unmade, slid. */
final class MoveBoundaries {
    private static final String MONEY = "column 1;column 12;column 20;";

    private final Boundary b;

    MoveBoundaries(Boundary boundary) {
        b = boundary;
    }

    void run() {
        kindsOfMoves();
        put();
        carry();
        shift();
        strike();
        strikeThatCannotBe();
        slide();
        log();
    }

    private static ExchequerCloth full() {
        return Told.cloth("column 1;column 2;row 30 30;row 5 5;" + "put 0 0 1;take 0 0 1;".repeat(12));
    }

    private void kindsOfMoves() {
        b.terms(8, "MOVES: 0 put r c k: k (1 .. 99) COUNTERS come into CELL r c", () -> {
            ExchequerCloth x = Told.cloth("column 1;row 0;");
            b.due("put 0", x.put(false, 0, 0, 0), -1);
            b.due("put -1", x.put(false, 0, 0, -1), -1);
            b.due("put 100", x.put(false, 0, 0, 100), -1);
            b.due("put 1", x.put(false, 0, 0, 1), 1);
            x.undo();
            b.due("put 99", x.put(false, 0, 0, 99), 99);
        });
        b.terms(8, "1 take r c k: k go", () -> {
            ExchequerCloth x = Told.cloth("column 1;row 99;");
            b.due("take 0", x.put(true, 0, 0, 0), -1);
            b.due("take -1", x.put(true, 0, 0, -1), -1);
            b.due("take 100", x.put(true, 0, 0, 100), -1);
            b.due("take 1", x.put(true, 0, 0, 1), 98);
            x.undo();
            b.due("take 99", x.put(true, 0, 0, 99), 0);
        });
        b.terms(9, "2 carry r c: of CELL r c go as many as RATIO of COLUMN c and 1, one comes into CELL r, c and 1", () -> {
            ExchequerCloth x = Told.cloth(MONEY + "row 12 19;");
            b.due("carry of 12 pence", x.carry(false, 0, 0), 0);
            b.due("a shilling came", x.of(0, 1), 20);
            b.due("carry of 20 shillings", x.carry(false, 0, 1), 0);
            b.due("a pound came", x.of(0, 2), 1);
        });
        b.terms(9, "3 break r c: one of CELL r c goes, RATIO of COLUMN c come into CELL r, c less 1 (c 1 or more)", () -> {
            ExchequerCloth x = Told.cloth(MONEY + "row 1 0 1;");
            b.due("break of a pound", x.carry(true, 0, 2), 0);
            b.due("20 shillings came", x.of(0, 1), 20);
            b.due("break of a shilling", x.carry(true, 0, 1), 19);
            b.due("12 pence came", x.of(0, 0), 13);
            b.due("break of a penny", x.carry(true, 0, 0), -1);
        });
        b.terms(10, "4 shift r s c k: k go of CELL r c, come into CELL s c (s another ROW).", () -> {
            ExchequerCloth x = Told.cloth("column 1;column 2;row 0 99;row 0;");
            b.due("shift 0", x.shift(0, 1, 1, 0), -1);
            b.due("shift -1", x.shift(0, 1, 1, -1), -1);
            b.due("shift 100", x.shift(0, 1, 1, 100), -1);
            b.due("shift to the same ROW", x.shift(0, 0, 1, 1), -1);
            b.due("shift 99", x.shift(0, 1, 1, 99), 99);
            b.due("they went", x.of(0, 1), 0);
            b.due("shift 1 back", x.shift(1, 0, 1, 1), 1);
            b.due("column 0 is left alone", x.of(0, 0) + x.of(1, 0), 0);
        });
        b.terms(8, "A MOVE can be, if these CELLS are there", () -> {
            ExchequerCloth x = Told.cloth("column 1;column 2;row 50 50;row 50 50;");
            b.due("put in row 2", x.put(false, 2, 0, 1), -1);
            b.due("put in column 2", x.put(false, 0, 2, 1), -1);
            b.due("carry in row 2", x.carry(false, 2, 0), -1);
            b.due("carry out of the highest column", x.carry(false, 0, 1), -1);
            b.due("break out of the lowest column", x.carry(true, 0, 0), -1);
            b.due("shift out of row 2", x.shift(2, 0, 0, 1), -1);
            b.due("shift into row 2", x.shift(0, 2, 0, 1), -1);
            b.due("count(2)", x.count(2), 0);
        });
        b.terms(8, "and none has less than 0 or more than 99 then.", () -> {
            ExchequerCloth x = Told.cloth("column 1;column 2;row 1 99;row 99 0;");
            b.due("put of one too many", x.put(false, 0, 1, 1), -1);
            b.due("take of one too many", x.put(true, 1, 1, 1), -1);
            b.due("carry of one too few", x.carry(false, 0, 0), -1);
            b.due("break of none", x.carry(true, 1, 1), -1);
            b.due("shift into a full one", x.shift(0, 1, 0, 1), -1);
            b.due("shift of one too many", x.shift(0, 1, 0, 2), -1);
        });
        b.terms(9, "and none has less than 0 or more than 99 then.", () -> {
            ExchequerCloth up = Told.cloth("column 1;column 2;row 2 99;");
            b.due("carry into a full one", up.carry(false, 0, 0), -1);
            ExchequerCloth nearly = Told.cloth("column 1;column 2;row 2 98;");
            b.due("carry up to 99", nearly.carry(false, 0, 0) * 100 + nearly.of(0, 1), 99);
            ExchequerCloth down = Told.cloth("column 1;column 2;row 98 1;");
            b.due("break beyond 99", down.carry(true, 0, 1), -1);
            ExchequerCloth room = Told.cloth("column 1;column 2;row 97 1;");
            b.due("break up to 99", room.carry(true, 0, 1) * 100 + room.of(0, 0), 99);
        });
    }

    private void put() {
        b.promise(8, "A MOVE 0 or 1 (taken false: put, true: take): how many COUNTERS that CELL has then", () -> {
            ExchequerCloth x = Told.cloth("column 1;column 2;row 3 4;row 5 6;");
            b.due("put", x.put(false, 1, 0, 94), 99);
            b.due("its kind", x.move(0, 0), 0);
            b.due("take", x.put(true, 0, 1, 4), 0);
            b.due("its kind", x.move(1, 0), 1);
            b.due("sum of all", x.sum(-1), 3 + 99 + 12);
        });
        b.promise(8, "NONE, and nothing happens: it can't be", () -> {
            String text = "column 1;column 2;row 98 1;row 5 5;put 0 0 1;seen 0 0 0 98;";
            b.refused(text, "put beyond 99", x -> x.put(false, 0, 0, 1), -1);
            b.refused(text, "take below 0", x -> x.put(true, 0, 1, 2), -1);
            b.refused(text, "put 0", x -> x.put(false, 1, 0, 0), -1);
            b.refused(text, "take -1", x -> x.put(true, 1, 0, -1), -1);
            b.refused(text, "take MIN", x -> x.put(true, 1, 0, Boundary.LEAST), -1);
            b.refused(text, "put MAX", x -> x.put(false, 1, 0, Boundary.MOST), -1);
            for (int far : Boundary.outside(2)) {
                b.refused(text, "put in row " + far, x -> x.put(false, far, 0, 1), -1);
                b.refused(text, "put in column " + far, x -> x.put(false, 1, far, 1), -1);
                b.refused(text, "take in row " + far, x -> x.put(true, far, 0, 1), -1);
                b.refused(text, "take in column " + far, x -> x.put(true, 1, far, 1), -1);
            }
        });
        b.promise(8, "THE LOG is full", () -> {
            b.refused(MoveBoundaries::full, "put", x -> x.put(false, 0, 0, 1), -1);
            b.refused(MoveBoundaries::full, "take", x -> x.put(true, 0, 0, 1), -1);
        });
    }

    private void carry() {
        b.promise(9, "A MOVE 2 (broken false: carry) or 3 (true: break): how many COUNTERS that CELL has then", () -> {
            ExchequerCloth x = Told.cloth(MONEY + "row 0;row 30 30 3;");
            b.due("carry", x.carry(false, 1, 1), 10);
            b.due("its kind", x.move(0, 0), 2);
            b.due("break", x.carry(true, 1, 2), 3);
            b.due("its kind", x.move(1, 0), 3);
            b.due("of(1, 1)", x.of(1, 1), 30);
        });
        b.promise(9, "NONE, and nothing happens: it can't be", () -> {
            String text = MONEY + "row 11 99 0;row 99 0 99;put 0 0 1;take 0 0 1;";
            b.refused(text, "carry of 11", x -> x.carry(false, 0, 0), -1);
            b.refused(text, "carry of the highest", x -> x.carry(false, 1, 2), -1);
            b.refused(text, "break of the lowest", x -> x.carry(true, 1, 0), -1);
            b.refused(text, "break of none", x -> x.carry(true, 0, 2), -1);
            b.refused(text, "break beyond 99", x -> x.carry(true, 1, 1), -1);
            b.refused(MONEY + "row 12 99;", "carry beyond 99", x -> x.carry(false, 0, 0), -1);
            b.refused(MONEY + "row 88 1;", "break up to 100", x -> x.carry(true, 0, 1), -1);
            for (int far : Boundary.outside(2)) {
                b.refused(text, "carry in row " + far, x -> x.carry(false, far, 0), -1);
                b.refused(text, "break in row " + far, x -> x.carry(true, far, 1), -1);
            }
            for (int far : Boundary.outside(3)) {
                b.refused(text, "carry in column " + far, x -> x.carry(false, 1, far), -1);
                b.refused(text, "break in column " + far, x -> x.carry(true, 1, far), -1);
            }
        });
        b.promise(9, "THE LOG is full", () -> {
            b.refused(MoveBoundaries::full, "carry", x -> x.carry(false, 0, 0), -1);
            b.refused(MoveBoundaries::full, "break", x -> x.carry(true, 0, 1), -1);
        });
    }

    private void shift() {
        b.promise(10, "A MOVE 4: how many COUNTERS the CELL of the second ROW has then", () -> {
            ExchequerCloth x = Told.cloth("column 1;column 2;row 1 50;row 2 3;row 4 49;");
            b.due("shift of all, up to 99", x.shift(0, 2, 1, 50), 99);
            b.due("of(0, 1)", x.of(0, 1), 0);
            b.due("its kind", x.move(0, 0), 4);
            b.due("to a lower ROW", x.shift(2, 1, 0, 4), 6);
        });
        b.promise(10, "NONE, and nothing happens: it can't be", () -> {
            String text = "column 1;column 2;row 50 50;row 50 0;put 0 0 1;take 0 0 1;seen 2 0 0 50;";
            b.refused(text, "shift beyond 99", x -> x.shift(0, 1, 0, 50), -1);
            b.refused(text, "shift below 0", x -> x.shift(0, 1, 1, 51), -1);
            b.refused(text, "shift of none", x -> x.shift(1, 0, 1, 1), -1);
            b.refused(text, "shift to the same ROW", x -> x.shift(0, 0, 0, 1), -1);
            for (int k : new int[] {0, -1, 100, Boundary.LEAST, Boundary.MOST}) {
                b.refused(text, "shift of " + k, x -> x.shift(0, 1, 1, k), -1);
            }
            for (int far : Boundary.outside(2)) {
                b.refused(text, "shift out of row " + far, x -> x.shift(far, 1, 0, 1), -1);
                b.refused(text, "shift into row " + far, x -> x.shift(0, far, 0, 1), -1);
                b.refused(text, "shift in row " + far + " alone", x -> x.shift(far, far, 0, 1), -1);
                b.refused(text, "shift in column " + far, x -> x.shift(0, 1, far, 1), -1);
            }
        });
        b.promise(10, "THE LOG is full", () ->
            b.refused(MoveBoundaries::full, "shift", x -> x.shift(0, 1, 0, 1), -1));
    }

    private void strike() {
        b.promise(11, "The latest MOVE of THE LOG is unmade on the cloth and goes out of THE LOG", () -> {
            String text = MONEY + "row 30 30 3;row 1 2 3;";
            String[] moves = {"put 0 0 69;", "take 1 2 3;", "carry 0 0;", "break 0 2;", "shift 0 1 0 18;"};
            for (String move : moves) {
                ExchequerCloth x = Told.cloth(text + move);
                b.due("strike of " + move, x.strike(), 0);
                b.spells(x, Told.spelled(Told.cloth(text)));
                b.due("differs behind strike of " + move, x.differs(), 0);
            }
        });
        b.promise(11, ": how many MOVES are left", () -> {
            ExchequerCloth x = full();
            for (int left = 23; left >= 0; left--) {
                b.due("strike", x.strike(), left);
            }
            b.due("one more", x.strike(), -1);
        });
        b.promise(11, "(SEEN behind it, too)", () -> {
            ExchequerCloth x = Told.cloth("column 1;row 5;put 0 0 1;put 0 0 1;seen 2 0 0 7;seen 1 0 0 6;seen 2 0 0 9;"
                + "seen 0 0 0 5;");
            b.due("strike", x.strike(), 1);
            b.spells(x, "column 1;row 5;put 0 0 1;seen 1 0 0 6;seen 0 0 0 5;");
            b.due("strike", x.strike(), 0);
            b.spells(x, "column 1;row 5;seen 0 0 0 5;");
            x.undo();
            x.undo();
            b.due("they come back with undo", x.count(3), 4);
        });
        b.promise(11, "NONE, and nothing happens: no MOVES", () -> {
            b.refused(ExchequerCloth::new, "strike", ExchequerCloth::strike, -1);
            b.refused("column 1;row 5;seen 0 0 0 5;", "strike", ExchequerCloth::strike, -1);
        });
        b.terms(11, "Where NONE and -2 could both be told, it is NONE.", () -> {
            ExchequerCloth x = Told.cloth("column 1;column 2;row 0 1;");
            x.slide(0, 1, false);
            b.due("strike without MOVES behind a slide", x.strike(), -1);
        });
    }

    private void strikeThatCannotBe() {
        String less = "-2, and nothing happens: it can't be unmade (a CELL would have less than 0 or more than 99)";
        b.promise(11, less, () -> {
            unmade("a put, less than 0", "row 0 5;put 0 0 1;", 0, 0, true);
            unmade("a take, more than 99", "row 99 5;take 0 0 1;", 0, 1, false);
            unmade("a carry, less than 0 above", "row 2 0;carry 0 0;", 0, 1, false);
            unmade("a carry, more than 99 below", "row 99 1;carry 0 0;", 0, 1, false);
            unmade("a break, less than 0 below", "row 0 9;break 0 1;", 0, 0, true);
            unmade("a break, more than 99 above", "row 97 99;break 0 1;", 0, 0, true);
            unmade("a shift, less than 0 there", "row 5 5;row 0 5;shift 0 1 0 5;", 1, 0, true);
            unmade("a shift, more than 99 here", "row 99 5;row 0 5;shift 0 1 0 1;", 0, 1, false);
        });
        b.promise(11, "less than 0 or more than 99", () -> {
            ExchequerCloth x = Told.cloth("column 1;column 2;row 1 5;put 0 0 1;");
            x.slide(0, 0, true);
            b.due("strike down to 0", x.strike(), 0);
            b.due("of(0, 0)", x.of(0, 0), 0);
            ExchequerCloth y = Told.cloth("column 1;column 2;row 98 5;take 0 0 1;");
            y.slide(0, 1, false);
            b.due("strike up to 99", y.strike(), 0);
            b.due("of(0, 0)", y.of(0, 0), 99);
        });
    }

    /** A MOVE that can't be unmade behind a slide, but can without it. */
    private void unmade(String what, String cloth, int row, int column, boolean up) {
        String text = "column 1;column 2;" + cloth;
        b.due("strike of " + what + ", without a slide", Told.cloth(text).strike(), 0);
        b.refused(() -> {
            ExchequerCloth x = Told.cloth(text);
            x.slide(row, column, up);
            return x;
        }, "strike of " + what, ExchequerCloth::strike, -2);
    }

    private void slide() {
        b.promise(12, "A SLIDE of one COUNTER (up true: to the next higher COLUMN), not written into THE LOG: "
            + "by how much SUM changes", () -> {
            ExchequerCloth x = Told.cloth(MONEY + "row 0;row 1 98 1;");
            b.due("up from the lowest, up to 99", x.slide(1, 0, true), 11);
            b.due("of(1, 0)", x.of(1, 0), 0);
            b.due("of(1, 1)", x.of(1, 1), 99);
            b.due("up", x.slide(1, 1, true), 228);
            b.due("down from the highest", x.slide(1, 2, false), -228);
            b.due("down", x.slide(1, 1, false), -11);
            b.due("count(2)", x.count(2), 0);
            b.due("count(4)", x.count(4), 4);
            b.spells(x, MONEY + "row 0 0 0;row 1 98 1;");
        });
        b.promise(12, "0, and nothing happens: it can't be", () -> {
            String text = MONEY + "row 0 99 1;row 99 1 99;take 1 0 1;put 1 0 1;";
            b.refused(text, "none there", x -> x.slide(0, 0, true), 0);
            b.refused(text, "above the highest", x -> x.slide(0, 2, true), 0);
            b.refused(text, "below the lowest", x -> x.slide(1, 0, false), 0);
            b.refused(text, "down into a full one", x -> x.slide(0, 2, false), 0);
            b.refused(text, "up into a full one", x -> x.slide(1, 1, true), 0);
            b.refused(text, "down into a full one at the lowest", x -> x.slide(1, 1, false), 0);
            for (int far : Boundary.outside(2)) {
                b.refused(text, "up in row " + far, x -> x.slide(far, 1, true), 0);
                b.refused(text, "down in row " + far, x -> x.slide(far, 1, false), 0);
            }
            for (int far : Boundary.outside(3)) {
                b.refused(text, "up in column " + far, x -> x.slide(0, far, true), 0);
                b.refused(text, "down in column " + far, x -> x.slide(0, far, false), 0);
            }
        });
        b.promise(12, "it can't be", () -> {
            b.refused(ExchequerCloth::new, "a new object", x -> x.slide(0, 0, true), 0);
            b.refused("column 1;row 5;", "one column, up", x -> x.slide(0, 0, true), 0);
            b.refused("column 1;row 5;", "one column, down", x -> x.slide(0, 0, false), 0);
        });
        b.terms(12, "A SLIDE: one COUNTER of a CELL goes to the next COLUMN, up or down, and nobody writes it into THE LOG.", () -> {
            ExchequerCloth x = full();
            b.due("slide where THE LOG is full", x.slide(0, 0, true), 1);
            b.due("count(2)", x.count(2), 24);
            b.due("differs", x.differs(), 2);
        });
    }

    private void log() {
        b.terms(8, "THE LOG: MOVES as they were made (at most 24; no more can be then)", () -> {
            ExchequerCloth x = Told.cloth("column 1;row 0;");
            for (int i = 0; i < 24; i++) {
                b.due("put " + i, x.put(false, 0, 0, i % 2 + 1), i + 1 + (i + 1) / 2);
            }
            b.due("a 25th", x.put(false, 0, 0, 1), -1);
            b.due("count(2)", x.count(2), 24);
            b.due("k of the first", x.move(0, 3), 1);
            b.due("k of the last", x.move(23, 3), 2);
            x.strike();
            b.due("a 24th again", x.put(false, 0, 0, 1), 35);
        });
        b.terms(41, "from the BEGINNING (the cloth as it was when THE LOG was empty).", () -> {
            ExchequerCloth x = Told.cloth("column 1;column 2;row 5 5;");
            x.put(false, 0, 0, 1);
            x.strike();
            b.due("behind strike of all MOVES", x.at(0, 0, 0), 5);
            x.slide(0, 0, true);
            x.put(false, 0, 0, 1);
            b.due("a slide is none of it", x.at(0, 0, 0), 5);
        });
    }
}
