/** Promises 24 to 33: what is asked of the cloth. */
final class AskedBoundaries {
    private static final String MONEY = "column 1;column 12;column 20;";
    private static final String DEAR = "column 1;column 20;column 20;column 20;column 20;column 20;";
    private static final String FULL = DEAR + "row 99 99 99 99 99 99;".repeat(4);
    private static final String TWO = MONEY + "row 30 2 1;row 0 5;";

    private final Boundary b;

    AskedBoundaries(Boundary boundary) {
        b = boundary;
    }

    void run() {
        of();
        sumAndCounters();
        worth();
        plainOf();
        carries();
        can();
        canWhereTheLogIsFull();
        compare();
        apart();
        fullest();
    }

    private void of() {
        b.promise(24, "COUNTERS of a CELL.", () -> {
            ExchequerCloth x = Told.cloth(FULL);
            b.due("the last cell", x.of(3, 5), 99);
            x.clear(3);
            b.due("an empty one", x.of(3, 5), 0);
        });
        b.promise(24, "NONE: no such one.", () -> {
            ExchequerCloth x = Told.cloth(TWO);
            for (int far : Boundary.outside(2)) {
                b.due("of(" + far + ", 0)", x.of(far, 0), -1);
            }
            for (int far : Boundary.outside(3)) {
                b.due("of(0, " + far + ")", x.of(0, far), -1);
            }
            b.due("a full cloth, row 4", Told.cloth(FULL).of(4, 0), -1);
            b.due("a full cloth, column 6", Told.cloth(FULL).of(0, 6), -1);
        });
    }

    private void sumAndCounters() {
        b.terms(25, "SUM of a ROW: COUNTERS times WORTH.", () -> {
            b.due("the greatest", Told.cloth(FULL).sum(3), 333473679);
            b.due("the least", Told.cloth(MONEY + "row 0;").sum(0), 0);
        });
        b.promise(25, "SUM of a ROW (of all ROWS together: row NONE).", () -> {
            b.due("sum(0)", Told.cloth(TWO).sum(0), 294);
            b.due("sum(NONE)", Told.cloth(TWO).sum(-1), 354);
            b.due("sum(NONE), the greatest", Told.cloth(FULL).sum(-1), 1333894716);
            b.due("sum(NONE) without ROWS", Told.cloth(MONEY).sum(-1), 0);
            b.due("sum(NONE) of a new object", new ExchequerCloth().sum(-1), 0);
        });
        b.promise(25, "-2: no such one.", () -> {
            for (int far : new int[] {-2, 2, 4, Boundary.LEAST, Boundary.MOST}) {
                b.due("sum(" + far + ")", Told.cloth(TWO).sum(far), -2);
            }
            b.due("sum(0) without ROWS", Told.cloth(MONEY).sum(0), -2);
            b.due("sum(4) of a full cloth", Told.cloth(FULL).sum(4), -2);
        });
        b.promise(26, "How many COUNTERS lie in a ROW (NONE: in all).", () -> {
            b.due("counters(0)", Told.cloth(TWO).counters(0), 33);
            b.due("counters(NONE)", Told.cloth(TWO).counters(-1), 38);
            b.due("counters(NONE), the most", Told.cloth(FULL).counters(-1), 24 * 99);
            b.due("counters(NONE) of a new object", new ExchequerCloth().counters(-1), 0);
            b.due("counters of an empty ROW", Told.cloth(MONEY + "row 0;").counters(0), 0);
        });
        b.promise(26, "-2: no such one.", () -> {
            for (int far : new int[] {-2, 2, 4, Boundary.LEAST, Boundary.MOST}) {
                b.due("counters(" + far + ")", Told.cloth(TWO).counters(far), -2);
            }
            b.due("counters(0) without ROWS", Told.cloth(MONEY).counters(0), -2);
        });
    }

    private void worth() {
        b.promise(27, "Of a COLUMN: 0 RATIO, 1 WORTH, 2 COUNTERS in it in all ROWS.", () -> {
            ExchequerCloth x = Told.cloth(FULL);
            b.due("RATIO of COLUMN 0", x.worth(0, 0), 1);
            b.due("WORTH of COLUMN 0", x.worth(0, 1), 1);
            b.due("RATIO of COLUMN 5", x.worth(5, 0), 20);
            b.due("WORTH of COLUMN 5", x.worth(5, 1), 3200000);
            b.due("COUNTERS in COLUMN 5", x.worth(5, 2), 396);
            b.due("COUNTERS without ROWS", Told.cloth(MONEY).worth(2, 2), 0);
            b.due("COUNTERS of unlike ROWS", Told.cloth("column 1;column 2;row 1 2;row 4;row 0 8;row 16 16;").worth(1, 2), 26);
        });
        b.promise(27, "NONE for others.", () -> {
            ExchequerCloth x = Told.cloth(TWO);
            for (int far : Boundary.outside(3)) {
                b.due("worth(0, " + far + ")", x.worth(0, far), -1);
                b.due("worth(" + far + ", 0)", x.worth(far, 0), -1);
                b.due("worth(" + far + ", 1)", x.worth(far, 1), -1);
                b.due("worth(" + far + ", 2)", x.worth(far, 2), -1);
            }
            b.due("worth(6, 0) of six", Told.cloth(FULL).worth(6, 0), -1);
            b.due("worth(0, 0) of none", new ExchequerCloth().worth(0, 0), -1);
        });
    }

    private void plainOf() {
        b.terms(28, "PLAIN of a sum: as many COUNTERS as go in of the highest COLUMN, of the rest as many as go in of the next "
            + "one, and so on.", () -> {
            ExchequerCloth x = Told.cloth(MONEY);
            int[][] want = {{0, 0, 0, 0}, {11, 11, 0, 0}, {12, 0, 1, 0}, {239, 11, 19, 0}, {240, 0, 0, 1}, {241, 1, 0, 1}};
            for (int[] plain : want) {
                for (int c = 0; c < 3; c++) {
                    b.due("plainOf(" + plain[0] + ", " + c + ")", x.plainOf(plain[0], c), plain[c + 1]);
                }
            }
        });
        b.promise(28, "COUNTERS of a COLUMN in PLAIN of a sum (column NONE: how many in all).", () -> {
            ExchequerCloth x = Told.cloth(MONEY);
            b.due("of 0", x.plainOf(0, -1), 0);
            b.due("of 239", x.plainOf(239, -1), 30);
            b.due("more than 99 are told, too", x.plainOf(24000, 2), 100);
            b.due("of the most, pounds", x.plainOf(Boundary.MOST, 2), 8947848);
            b.due("of the most, shillings", x.plainOf(Boundary.MOST, 1), 10);
            b.due("of the most, pence", x.plainOf(Boundary.MOST, 0), 7);
            b.due("of the most, all", x.plainOf(Boundary.MOST, -1), 8947865);
            b.due("of the most, one column", Told.cloth("column 1;").plainOf(Boundary.MOST, -1), Boundary.MOST);
        });
        b.promise(28, "NONE - 1: no such COLUMN", () -> {
            ExchequerCloth x = Told.cloth(TWO);
            for (int far : new int[] {-2, 3, 6, Boundary.LEAST, Boundary.MOST}) {
                b.due("plainOf(5, " + far + ")", x.plainOf(5, far), -2);
            }
        });
        b.promise(28, "sum below 0", () -> {
            ExchequerCloth x = Told.cloth(TWO);
            b.due("plainOf(-1, 0)", x.plainOf(-1, 0), -2);
            b.due("plainOf(-1, NONE)", x.plainOf(-1, -1), -2);
            b.due("plainOf(MIN, 0)", x.plainOf(Boundary.LEAST, 0), -2);
        });
        b.promise(28, "no COLUMNS", () -> {
            b.due("plainOf(0, NONE)", new ExchequerCloth().plainOf(0, -1), -2);
            b.due("plainOf(5, 0)", new ExchequerCloth().plainOf(5, 0), -2);
        });
    }

    private void carries() {
        b.promise(29, "How many MOVES 2 make a ROW PLAIN.", () -> {
            ExchequerCloth x = Told.cloth(MONEY + "row 11 19 99;row 12 19;row 24 18 99;row 0;");
            b.due("of a PLAIN one", x.carries(0), 0);
            b.due("one carry brings the next", x.carries(1), 2);
            b.due("where more than 99 would lie", x.carries(2), 3);
            b.due("of an empty one", x.carries(3), 0);
            b.due("one column", Told.cloth("column 1;row 99;").carries(0), 0);
        });
        b.promise(29, "How many MOVES 2 make a ROW PLAIN.", () -> {
            ExchequerCloth x = Told.cloth("column 1;column 2;column 2;column 2;column 2;column 2;row 99 99 99 99 99 99;");
            b.due("the most", x.carries(0), 49 + 74 + 86 + 92 + 95);
        });
        b.promise(29, "NONE: no such one.", () -> {
            for (int far : Boundary.outside(2)) {
                b.due("carries(" + far + ")", Told.cloth(TWO).carries(far), -1);
            }
            b.due("carries(0) of a new object", new ExchequerCloth().carries(0), -1);
        });
    }

    private void can() {
        b.promise(30, "Whether a MOVE (kind 0 .. 4, as told in II; other only for 4, k not for 2, 3) can be now", () -> {
            ExchequerCloth x = Told.cloth(TWO);
            b.due("put up to 99", x.can(0, 0, -7, 0, 69), 1);
            b.due("put up to 100", x.can(0, 0, -7, 0, 70), 0);
            b.due("take down to 0", x.can(1, 0, -7, 0, 30), 1);
            b.due("take below 0", x.can(1, 0, -7, 0, 31), 0);
            b.due("carry, k is not asked", x.can(2, 0, -7, 0, -7), 1);
            b.due("break, k is not asked", x.can(3, 0, -7, 1, 100), 1);
            b.due("shift", x.can(4, 1, 0, 1, 5), 1);
            b.due("shift below 0", x.can(4, 1, 0, 1, 6), 0);
            b.due("shift to itself", x.can(4, 1, 1, 1, 5), 0);
        });
        b.promise(30, "k not for 2, 3", () -> {
            ExchequerCloth x = Told.cloth(TWO);
            for (int k : new int[] {0, -1, 100, Boundary.LEAST, Boundary.MOST}) {
                b.due("put of " + k, x.can(0, 1, 0, 0, k), 0);
                b.due("take of " + k, x.can(1, 0, 0, 0, k), 0);
                b.due("carry, whatever k: " + k, x.can(2, 0, 0, 0, k), 1);
                b.due("break, whatever k: " + k, x.can(3, 0, 0, 2, k), 1);
                b.due("shift of " + k, x.can(4, 0, 1, 0, k), 0);
            }
        });
        b.promise(30, "other only for 4", () -> {
            ExchequerCloth x = Told.cloth(TWO);
            for (int far : Boundary.outside(2)) {
                b.due("put, whatever other: " + far, x.can(0, 0, far, 0, 1), 1);
                b.due("take, whatever other: " + far, x.can(1, 0, far, 0, 1), 1);
                b.due("carry, whatever other: " + far, x.can(2, 0, far, 0, 1), 1);
                b.due("break, whatever other: " + far, x.can(3, 0, far, 1, 1), 1);
                b.due("shift to " + far, x.can(4, 0, far, 0, 1), 0);
            }
        });
        b.promise(30, ": 1, 0 (others: 0, too).", () -> {
            ExchequerCloth x = Told.cloth(TWO);
            for (int far : Boundary.outside(5)) {
                b.due("kind " + far, x.can(far, 0, 1, 0, 1), 0);
            }
            for (int kind = 0; kind < 5; kind++) {
                for (int far : Boundary.outside(2)) {
                    b.due("kind " + kind + " in row " + far, x.can(kind, far, 0, 1, 1), 0);
                }
                for (int far : Boundary.outside(3)) {
                    b.due("kind " + kind + " in column " + far, x.can(kind, 0, 1, far, 1), 0);
                }
                b.due("kind " + kind + " of a new object", new ExchequerCloth().can(kind, 0, 1, 0, 1), 0);
            }
            b.due("count(2)", x.count(2), 0);
            b.due("count(4)", x.count(4), 0);
        });
    }

    private void canWhereTheLogIsFull() {
        b.promise(30, "if THE LOG isn't full", () -> {
            // read as: whether it could be, were THE LOG not full (NOTES.md)
            ExchequerCloth x = Told.cloth("column 1;column 2;row 30 30;row 5 5;" + "put 0 0 1;take 0 0 1;".repeat(12));
            b.due("put", x.can(0, 0, 0, 0, 1), 1);
            b.due("put beyond 99", x.can(0, 0, 0, 0, 70), 0);
        });
    }

    private void compare() {
        b.promise(31, "1 the SUM of the first ROW is more, 0 alike, -1 less than that of the other one.", () -> {
            ExchequerCloth x = Told.cloth(MONEY + "row 12;row 0 1;row 13;row 0;");
            b.due("alike, though it lies otherwise", x.compare(0, 1), 0);
            b.due("more by one", x.compare(2, 1), 1);
            b.due("less by one", x.compare(0, 2), -1);
            b.due("more than nothing", x.compare(0, 3), 1);
            b.due("with itself", x.compare(3, 3), 0);
            ExchequerCloth y = Told.cloth(DEAR + "row 99 99 99 99 99 99;row 0;");
            b.due("the greatest and the least", y.compare(0, 1), 1);
            b.due("the least and the greatest", y.compare(1, 0), -1);
        });
        b.promise(31, "-2: no such ones.", () -> {
            for (int far : Boundary.outside(2)) {
                b.due("compare(" + far + ", 0)", Told.cloth(TWO).compare(far, 0), -2);
                b.due("compare(0, " + far + ")", Told.cloth(TWO).compare(0, far), -2);
                b.due("compare(" + far + ", " + far + ")", Told.cloth(TWO).compare(far, far), -2);
            }
        });
    }

    private void apart() {
        b.promise(32, "The fewest MOVES 2 and 3 (in whatever order; a CELL may have less than 0 or more than 99 for a while) "
            + "by which a ROW comes to lie as another one does", () -> {
            ExchequerCloth x = Told.cloth("column 1;column 2;column 2;row 4 0 4;row 0 10;row 20;row 0 0 5;");
            b.due("carries and breaks", x.apart(0, 1), 6);
            b.due("and back", x.apart(1, 0), 6);
            b.due("as it lies", x.apart(2, 2), 0);
            b.due("through all columns", x.apart(2, 3), 15);
            b.due("and back", x.apart(3, 2), 15);
        });
        b.promise(32, "a CELL may have less than 0 or more than 99 for a while", () -> {
            // a break into a full cell comes first, or a break of what only a carry brings
            ExchequerCloth x = Told.cloth("column 1;column 2;column 2;row 99 0 1;row 99 2 0;row 2 0 1;row 0 3;");
            b.due("a break beside a full cell", x.apart(0, 1), 1);
            b.due("a carry and a break", x.apart(2, 3), 2);
            ExchequerCloth y = Told.cloth("column 1;column 20;column 20;row 0 0 1;row 20 19 0;row 99 95 1;row 19 99 1;");
            b.due("a break of what a break brings", y.apart(0, 1), 2);
            b.due("a carry of 80 into 95", y.apart(2, 3), 4);
        });
        b.promise(32, "-2: their SUMS are unlike.", () -> {
            ExchequerCloth x = Told.cloth(MONEY + "row 12;row 13;row 11 99 99;row 0;");
            b.due("by one", x.apart(0, 1), -2);
            b.due("by much", x.apart(2, 3), -2);
        });
        b.promise(32, "NONE: no such ones.", () -> {
            for (int far : Boundary.outside(2)) {
                b.due("apart(" + far + ", 0)", Told.cloth(TWO).apart(far, 0), -1);
                b.due("apart(0, " + far + ")", Told.cloth(TWO).apart(0, far), -1);
                b.due("apart(" + far + ", " + far + ")", Told.cloth(TWO).apart(far, far), -1);
            }
        });
    }

    private void fullest() {
        b.promise(33, "The CELL with most COUNTERS, of several the first by ROWS, then COLUMNS: 10 times ROW and COLUMN.", () -> {
            b.due("of several", Told.cloth("column 1;column 2;row 5 7;row 7 7;").fullest(), 1);
            b.due("the last cell", Told.cloth(DEAR + "row 0;row 0;row 0;row 98 98 98 98 98 99;").fullest(), 35);
            b.due("all alike", Told.cloth(FULL).fullest(), 0);
            b.due("all empty", Told.cloth(MONEY + "row 0;row 0;").fullest(), 0);
        });
        b.promise(33, "NONE: no CELLS.", () -> {
            b.due("a new object", new ExchequerCloth().fullest(), -1);
            b.due("no ROWS", Told.cloth(MONEY).fullest(), -1);
        });
    }
}
