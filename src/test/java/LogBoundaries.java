/** Promises 40 to 45: the log, and what was seen. */
final class LogBoundaries {
    private static final String MONEY = "column 1;column 12;column 20;";
    private static final String LOGGED = MONEY + "row 30 2 1;row 0 5;put 0 0 69;take 0 1 2;carry 0 0;break 1 1;shift 0 1 2 1;";

    private final Boundary b;

    LogBoundaries(Boundary boundary) {
        b = boundary;
    }

    void run() {
        move();
        at();
        sumAt();
        differs();
        seen();
        wrong();
    }

    private void move() {
        b.promise(40, "Of MOVE i of THE LOG: 0 its kind, 1 ROW, 2 COLUMN, 3 k (0 for 2, 3), 4 the other ROW (0 but for 4).", () -> {
            ExchequerCloth x = Told.cloth(LOGGED);
            int[][] log = {{0, 0, 0, 69, 0}, {1, 0, 1, 2, 0}, {2, 0, 0, 0, 0}, {3, 1, 1, 0, 0}, {4, 0, 2, 1, 1}};
            for (int i = 0; i < log.length; i++) {
                for (int what = 0; what < 5; what++) {
                    b.due("move(" + i + ", " + what + ")", x.move(i, what), log[i][what]);
                }
            }
        });
        b.promise(40, "3 k (0 for 2, 3), 4 the other ROW (0 but for 4)", () -> {
            // where another MOVE stood at that place of THE LOG, and was struck
            ExchequerCloth x = Told.cloth("column 1;column 2;row 9 9;row 9 9;row 9 9;");
            x.shift(0, 2, 1, 5);
            x.strike();
            x.carry(false, 1, 0);
            b.due("k of a carry", x.move(0, 3), 0);
            b.due("other ROW of a carry", x.move(0, 4), 0);
            x.strike();
            x.put(false, 1, 0, 4);
            b.due("other ROW of a put", x.move(0, 4), 0);
            x.shift(2, 0, 0, 9);
            b.due("other ROW 0 of a shift", x.move(1, 4), 0);
            b.due("ROW of a shift", x.move(1, 1), 2);
        });
        b.promise(40, "NONE: no such ones.", () -> {
            ExchequerCloth x = Told.cloth(LOGGED);
            for (int far : Boundary.outside(5)) {
                b.due("move(" + far + ", 0)", x.move(far, 0), -1);
                b.due("move(0, " + far + ")", x.move(0, far), -1);
            }
            ExchequerCloth full = Told.cloth("column 1;row 5;" + "put 0 0 1;take 0 0 1;".repeat(12));
            b.due("the last of a full LOG", full.move(23, 0), 1);
            b.due("behind a full LOG", full.move(24, 0), -1);
            b.due("of an empty LOG", new ExchequerCloth().move(0, 0), -1);
        });
    }

    private void at() {
        b.terms(41, "BY THE LOG behind t MOVES: the BEGINNING and the first t of them.", () -> {
            ExchequerCloth x = Told.cloth(LOGGED);
            int[] pence = {30, 99, 99, 87, 87, 87};
            int[] pounds = {1, 1, 1, 1, 1, 0};
            for (int t = 0; t < 6; t++) {
                b.due("at(" + t + ", 0, 0)", x.at(t, 0, 0), pence[t]);
                b.due("at(" + t + ", 0, 2)", x.at(t, 0, 2), pounds[t]);
            }
        });
        b.promise(41, "COUNTERS of a CELL BY THE LOG behind t MOVES", () -> {
            ExchequerCloth x = Told.cloth("column 1;row 5;" + "put 0 0 1;".repeat(24));
            b.due("behind none", x.at(0, 0, 0), 5);
            b.due("behind 24", x.at(24, 0, 0), 29);
            ExchequerCloth y = Told.cloth("column 1;column 2;row 5 5;put 0 0 1;");
            y.slide(0, 0, true);
            b.due("a slide is not in it", y.at(1, 0, 0), 6);
            b.due("though the cloth lies so", y.of(0, 0), 5);
        });
        b.promise(41, "(below 0 or above 99 can be, where a SLIDE lies between)", () -> {
            ExchequerCloth below = Told.cloth("column 1;column 2;row 0 1;");
            below.slide(0, 1, false);
            below.put(true, 0, 0, 1);
            b.due("below 0", below.at(1, 0, 0), -1);
            ExchequerCloth above = Told.cloth("column 1;column 2;row 99 0;");
            above.slide(0, 0, true);
            above.put(false, 0, 0, 1);
            b.due("above 99", above.at(1, 0, 0), 100);
        });
        b.promise(41, "-1000: no such ones", () -> {
            ExchequerCloth x = Told.cloth(LOGGED);
            for (int far : Boundary.outside(2)) {
                b.due("at(0, " + far + ", 0)", x.at(0, far, 0), -1000);
            }
            for (int far : Boundary.outside(3)) {
                b.due("at(0, 0, " + far + ")", x.at(0, 0, far), -1000);
            }
            b.due("at(-1, 0, 0)", x.at(-1, 0, 0), -1000);
            b.due("at(MIN, 0, 0)", x.at(Boundary.LEAST, 0, 0), -1000);
            b.due("a new object", new ExchequerCloth().at(0, 0, 0), -1000);
        });
        b.promise(41, "more than were made.", () -> {
            ExchequerCloth x = Told.cloth(LOGGED);
            b.due("at(5, 0, 0)", x.at(5, 0, 0), 87);
            b.due("at(6, 0, 0)", x.at(6, 0, 0), -1000);
            b.due("at(MAX, 0, 0)", x.at(Boundary.MOST, 0, 0), -1000);
            x.strike();
            b.due("behind a strike", x.at(5, 0, 0), -1000);
            ExchequerCloth full = Told.cloth("column 1;row 5;" + "put 0 0 1;".repeat(24));
            b.due("behind a full LOG", full.at(25, 0, 0), -1000);
        });
    }

    private void sumAt() {
        b.promise(42, "SUM of all ROWS BY THE LOG behind t MOVES", () -> {
            ExchequerCloth x = Told.cloth(LOGGED);
            int[] sums = {354, 423, 399, 399, 399, 399};
            for (int t = 0; t < 6; t++) {
                b.due("sumAt(" + t + ")", x.sumAt(t), sums[t]);
            }
            b.due("a new object", new ExchequerCloth().sumAt(0), 0);
            ExchequerCloth full = Told.cloth("column 1;column 20;column 20;column 20;column 20;column 20;"
                + "row 99 99 99 99 99 99;".repeat(4));
            b.due("the greatest", full.sumAt(0), 1333894716);
        });
        b.promise(42, "(below 0 can be)", () -> {
            ExchequerCloth x = Told.cloth("column 1;column 20;row 1 0;");
            x.slide(0, 0, true);
            x.put(true, 0, 1, 1);
            b.due("sumAt(1)", x.sumAt(1), -19);
        });
        b.promise(42, "Integer.MIN_VALUE: more than were made", () -> {
            ExchequerCloth x = Told.cloth(LOGGED);
            b.due("sumAt(6)", x.sumAt(6), Boundary.LEAST);
            b.due("sumAt(MAX)", x.sumAt(Boundary.MOST), Boundary.LEAST);
            b.due("a new object", new ExchequerCloth().sumAt(1), Boundary.LEAST);
            ExchequerCloth full = Told.cloth("column 1;row 5;" + "put 0 0 1;".repeat(24));
            b.due("behind 24", full.sumAt(24), 29);
            b.due("behind 25", full.sumAt(25), Boundary.LEAST);
        });
        b.promise(42, "t below 0.", () -> {
            b.due("sumAt(-1)", Told.cloth(LOGGED).sumAt(-1), Boundary.LEAST);
            b.due("sumAt(MIN)", Told.cloth(LOGGED).sumAt(Boundary.LEAST), Boundary.LEAST);
        });
    }

    private void differs() {
        b.promise(43, "In how many CELLS the cloth lies otherwise than BY THE LOG behind all MOVES.", () -> {
            ExchequerCloth x = Told.cloth("column 1;column 2;column 2;row 5 5 5;row 5 5 5;put 0 0 1;");
            b.due("none", x.differs(), 0);
            x.slide(0, 0, true);
            b.due("two", x.differs(), 2);
            x.slide(0, 1, true);
            b.due("in two, the one between has its number again", x.differs(), 2);
            x.slide(1, 2, false);
            b.due("four", x.differs(), 4);
            x.put(false, 1, 0, 1);
            b.due("a MOVE changes nothing of it", x.differs(), 4);
            x.slide(0, 2, false);
            x.slide(0, 1, false);
            x.slide(1, 1, true);
            b.due("all slid back", x.differs(), 0);
            b.due("a new object", new ExchequerCloth().differs(), 0);
        });
        b.promise(43, "In how many CELLS", () -> {
            ExchequerCloth x = Told.cloth("column 1;column 2;column 2;column 2;column 2;column 2;" + "row 9 9 9 9 9 9;".repeat(4));
            for (int r = 0; r < 4; r++) {
                for (int c = 0; c < 6; c += 2) {
                    x.slide(r, c, true);
                }
            }
            b.due("in all 24", x.differs(), 24);
        });
    }

    private void seen() {
        b.terms(44, "It is RIGHT, if that is so BY THE LOG.", () -> {
            ExchequerCloth x = Told.cloth("column 1;column 2;row 5 5;put 0 0 1;seen 0 0 0 5;seen 0 0 0 6;seen 1 0 0 6;seen 1 0 0 5;");
            x.slide(0, 0, true);
            for (int k = 0; k < 4; k++) {
                b.due("seen(" + k + ", 4), whatever slid", x.seen(k, 4), 1 - k % 2);
            }
        });
        b.promise(44, "Of SEEN k: 0 t, 1 ROW, 2 COLUMN, 3 n, 4: 1 it is RIGHT, else 0.", () -> {
            ExchequerCloth x = Told.cloth(LOGGED + "seen 5 1 2 1;seen 0 0 1 99;");
            int[][] want = {{5, 1, 2, 1, 1}, {0, 0, 1, 99, 0}};
            for (int k = 0; k < 2; k++) {
                for (int what = 0; what < 5; what++) {
                    b.due("seen(" + k + ", " + what + ")", x.seen(k, what), want[k][what]);
                }
            }
        });
        b.promise(44, "NONE: no such ones.", () -> {
            ExchequerCloth x = Told.cloth(LOGGED + "seen 5 1 2 1;seen 0 0 1 99;");
            for (int far : Boundary.outside(2)) {
                b.due("seen(" + far + ", 0)", x.seen(far, 0), -1);
                b.due("seen(" + far + ", 4)", x.seen(far, 4), -1);
            }
            for (int far : Boundary.outside(5)) {
                b.due("seen(0, " + far + ")", x.seen(0, far), -1);
            }
            ExchequerCloth twelve = Told.cloth("column 1;row 5;" + "seen 0 0 0 5;".repeat(12));
            b.due("the last of 12", twelve.seen(11, 3), 5);
            b.due("behind 12", twelve.seen(12, 3), -1);
        });
    }

    private void wrong() {
        b.promise(45, "The first SEEN that isn't RIGHT", () -> {
            b.due("the first", Told.cloth("column 1;row 5;seen 0 0 0 6;seen 0 0 0 7;").wrong(), 0);
            b.due("the last of 12", Told.cloth("column 1;row 5;" + "seen 0 0 0 5;".repeat(11) + "seen 0 0 0 4;").wrong(), 11);
            b.due("between", Told.cloth("column 1;row 5;seen 0 0 0 5;seen 0 0 0 4;seen 0 0 0 5;seen 0 0 0 3;").wrong(), 1);
        });
        b.promise(45, "-2: none.", () -> {
            b.due("none SEEN", new ExchequerCloth().wrong(), -2);
            b.due("all RIGHT", Told.cloth("column 1;row 5;" + "seen 0 0 0 5;".repeat(12)).wrong(), -2);
            ExchequerCloth x = Told.cloth("column 1;row 5;seen 0 0 0 4;");
            x.sieve();
            b.due("sieved", x.wrong(), -2);
            x.undo();
            b.due("undone", x.wrong(), 0);
        });
    }
}
