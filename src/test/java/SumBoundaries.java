/** Promises 34 to 39: sums taken and paid. */
final class SumBoundaries {
    private static final String MONEY = "column 1;column 12;column 20;";
    private static final String TWOS = "column 1;column 2;column 2;column 2;column 2;column 2;";
    private static final String DEAR = "column 1;column 20;column 20;column 20;column 20;column 20;";
    private static final String THREE = MONEY + "row 30 2 1;row 0 5;row 0;";

    private final Boundary b;

    SumBoundaries(Boundary boundary) {
        b = boundary;
    }

    void run() {
        ways();
        taken();
        breaks();
        missing();
        pays();
        paysFewest();
        paysOf();
    }

    private void ways() {
        b.terms(34, "TAKEN: a sum taken from a ROW as it lies: of each COLUMN some of its COUNTERS, worth the sum together.", () -> {
            ExchequerCloth x = Told.cloth(THREE);
            b.due("24 of 30 pence, 2 shillings", x.ways(0, 24), 3);
            b.due("42: with 30 pence at most", x.ways(0, 42), 2);
            b.due("54: all but the pound", x.ways(0, 54), 1);
            b.due("55: between", x.ways(0, 55), 0);
            b.due("6 of shillings", x.ways(1, 6), 0);
        });
        b.promise(34, "In how many ways a sum (0 or more) can be TAKEN.", () -> {
            ExchequerCloth x = Told.cloth(THREE);
            b.due("0", x.ways(0, 0), 1);
            b.due("0 of an empty ROW", x.ways(2, 0), 1);
            b.due("1 of an empty ROW", x.ways(2, 1), 0);
            b.due("all", x.ways(0, 294), 1);
            b.due("one more than all", x.ways(0, 295), 0);
            b.due("the most", x.ways(0, Boundary.MOST), 0);
        });
        b.promise(34, "In how many ways", () -> {
            ExchequerCloth x = Told.cloth(TWOS + "row 99 99 99 99 99 99;");
            b.due("half of the fullest", x.ways(0, 3118), 312500000L);
            b.due("the other half", x.ways(0, 3119), 312500000L);
            b.due("all of the fullest", x.ways(0, 6237), 1);
            b.due("all of the dearest", Told.cloth(DEAR + "row 99 99 99 99 99 99;").ways(0, 333473679), 1);
        });
        b.promise(34, "NONE: no such ROW, sum.", () -> {
            ExchequerCloth x = Told.cloth(THREE);
            for (int far : Boundary.outside(3)) {
                b.due("ways(" + far + ", 0)", x.ways(far, 0), -1);
            }
            b.due("ways(0, -1)", x.ways(0, -1), -1);
            b.due("ways(0, MIN)", x.ways(0, Boundary.LEAST), -1);
            b.due("a new object", new ExchequerCloth().ways(0, 0), -1);
        });
    }

    private void taken() {
        b.promise(35, "TAKEN with the fewest COUNTERS: how many of a COLUMN (NONE: of all)", () -> {
            ExchequerCloth x = Told.cloth(THREE);
            b.due("24", x.taken(0, 24, -1), 2);
            b.due("24 in shillings", x.taken(0, 24, 1), 2);
            b.due("24 in pence", x.taken(0, 24, 0), 0);
            b.due("53 in pence, where shillings end", x.taken(0, 53, 0), 29);
            b.due("0", x.taken(0, 0, -1), 0);
            b.due("0 of an empty ROW", x.taken(2, 0, -1), 0);
            b.due("all", x.taken(0, 294, -1), 33);
            b.due("all in pounds", x.taken(0, 294, 2), 1);
        });
        b.promise(35, "-2: it can't be.", () -> {
            ExchequerCloth x = Told.cloth(THREE);
            b.due("between", x.taken(0, 55, -1), -2);
            b.due("between, of a column that is not touched", x.taken(0, 55, 2), -2);
            b.due("more than all", x.taken(0, 295, -1), -2);
            b.due("the most", x.taken(0, Boundary.MOST, 0), -2);
            b.due("1 of an empty ROW", x.taken(2, 1, 0), -2);
        });
        b.promise(35, "NONE - 2: no such ROW, COLUMN", () -> {
            ExchequerCloth x = Told.cloth(THREE);
            for (int far : Boundary.outside(3)) {
                b.due("taken(" + far + ", 0, 0)", x.taken(far, 0, 0), -3);
                b.due("taken(0, 0, " + far + ")", x.taken(0, 0, far), far == -1 ? 0 : -3);
                b.due("taken(0, 55, " + far + ")", x.taken(0, 55, far), far == -1 ? -2 : -3);
            }
        });
        b.promise(35, "sum below 0.", () -> {
            ExchequerCloth x = Told.cloth(THREE);
            b.due("taken(0, -1, 0)", x.taken(0, -1, 0), -3);
            b.due("taken(0, -1, NONE)", x.taken(0, -1, -1), -3);
            b.due("taken(0, MIN, NONE)", x.taken(0, Boundary.LEAST, -1), -3);
        });
    }

    private void breaks() {
        b.promise(36, "The fewest MOVES 3 (in whatever order; no CELL above 99 is asked) behind which a sum can be TAKEN", () -> {
            ExchequerCloth x = Told.cloth(THREE);
            b.due("0", x.breaks(0, 0), 0);
            b.due("as it lies", x.breaks(0, 54), 0);
            b.due("55", x.breaks(0, 55), 1);
            b.due("all", x.breaks(0, 294), 0);
            b.due("0 of an empty ROW", x.breaks(2, 0), 0);
            ExchequerCloth high = Told.cloth(DEAR + "row 0 0 0 0 0 1;");
            b.due("through all columns", high.breaks(0, 1), 5);
            b.due("all but one", high.breaks(0, 3199999), 5);
            b.due("down to column 3", high.breaks(0, 8000), 2);
        });
        b.promise(36, "in whatever order; no CELL above 99 is asked", () -> {
            ExchequerCloth x = Told.cloth("column 1;column 20;column 20;row 0 99 9;row 19 99 99;row 0 0 99;");
            b.due("a penny beside a full cell", x.breaks(0, 1), 1);
            b.due("all shillings and a penny", x.breaks(0, 1981), 1);
            b.due("all but a penny", x.breaks(0, 5579), 1);
            b.due("all of a full row", x.breaks(1, 41599), 0);
            b.due("all but one, of pounds alone", x.breaks(2, 39599), 2);
        });
        b.promise(36, "-2: never.", () -> {
            ExchequerCloth x = Told.cloth(THREE);
            b.due("more than all", x.breaks(0, 295), -2);
            b.due("the most", x.breaks(0, Boundary.MOST), -2);
            b.due("1 of an empty ROW", x.breaks(2, 1), -2);
        });
        b.promise(36, "NONE: no such ROW, sum below 0.", () -> {
            ExchequerCloth x = Told.cloth(THREE);
            for (int far : Boundary.outside(3)) {
                b.due("breaks(" + far + ", 1)", x.breaks(far, 1), -1);
            }
            b.due("breaks(0, -1)", x.breaks(0, -1), -1);
            b.due("breaks(0, MIN)", x.breaks(0, Boundary.LEAST), -1);
        });
        b.terms(36, "Where NONE and -2 could both be told, it is NONE.", () ->
            b.due("breaks(3, 295)", Told.cloth(THREE).breaks(3, 295), -1));
    }

    private void missing() {
        b.promise(37, "The least sum above 0 that can't be TAKEN.", () -> {
            ExchequerCloth x = Told.cloth(MONEY + "row 11 19 99;row 10 99 99;row 11 18 99;row 0 99 99;");
            b.due("one more than all", x.missing(0), 11 + 228 + 23760 + 1);
            b.due("a penny too few", x.missing(1), 11);
            b.due("a shilling too few", x.missing(2), 228);
            b.due("no pence", x.missing(3), 1);
            b.due("an empty ROW", Told.cloth(MONEY + "row 0;").missing(0), 1);
            b.due("the greatest", Told.cloth(DEAR + "row 99 99 99 99 99 99;").missing(0), 333473680);
            b.due("a gap of a column in between", Told.cloth(MONEY + "row 11 0 5;").missing(0), 12);
            b.due("pence for shillings", Told.cloth(MONEY + "row 23 18 1;").missing(0), 480);
        });
        b.promise(37, "NONE: no such ROW.", () -> {
            for (int far : Boundary.outside(3)) {
                b.due("missing(" + far + ")", Told.cloth(THREE).missing(far), -1);
            }
            b.due("a new object", new ExchequerCloth().missing(0), -1);
        });
    }

    private void pays() {
        b.terms(38, "PAYS from a ROW to another one: of each COLUMN some COUNTERS go over, or come back, the SUM of one less, "
            + "of the other more by the sum", () -> {
            ExchequerCloth x = Told.cloth(MONEY + "row 0 5;row 30 2;");
            b.due("pays(0, 1, 7)", x.pays(0, 1, 7), 6);
            x.pay(0, 1, 7);
            b.due("sum(0)", x.sum(0), 53);
            b.due("sum(1)", x.sum(1), 61);
        });
        b.terms(38, "none below 0, above 99 then", () -> {
            b.due("a penny less than the change", Told.cloth(MONEY + "row 0 1;row 4;").pays(0, 1, 7), -2);
            b.due("just the change", Told.cloth(MONEY + "row 0 1;row 5;").pays(0, 1, 7), 6);
            b.due("no room there", Told.cloth("column 1;column 3;row 99 10;row 99 10;").pays(0, 1, 1), -2);
            b.due("just room there", Told.cloth("column 1;column 3;row 99 10;row 98 10;").pays(0, 1, 1), 1);
            b.due("no room for change here", Told.cloth("column 1;column 9;row 99 1;row 99;").pays(0, 1, 8), -2);
            b.due("just room for change here", Told.cloth("column 1;column 9;row 98 1;row 99;").pays(0, 1, 8), 2);
        });
        b.promise(38, "PAYS: how many COUNTERS go and come", () -> {
            ExchequerCloth x = Told.cloth(THREE);
            b.due("a shilling", x.pays(0, 1, 12), 1);
            b.due("1", x.pays(0, 1, 1), 1);
            b.due("all", x.pays(0, 2, 294), 33);
            ExchequerCloth dear = Told.cloth(DEAR + "row 99 99 99 99 99 99;row 0;");
            b.due("all of the dearest", dear.pays(0, 1, 333473679), 594);
        });
        b.promise(38, "-2: it can't be.", () -> {
            ExchequerCloth x = Told.cloth(THREE);
            b.due("one more than all", x.pays(0, 1, 295), -2);
            b.due("the most", x.pays(0, 1, Boundary.MOST), -2);
            b.due("no change", x.pays(1, 2, 7), -2);
            b.due("from an empty ROW", x.pays(2, 0, 1), -2);
        });
        b.promise(38, "NONE: no such ROWS", () -> {
            for (int far : Boundary.outside(3)) {
                b.due("pays(" + far + ", 0, 1)", Told.cloth(THREE).pays(far, 0, 1), -1);
                b.due("pays(0, " + far + ", 1)", Told.cloth(THREE).pays(0, far, 1), -1);
                b.due("pays(0, " + far + ", 295)", Told.cloth(THREE).pays(0, far, 295), -1);
            }
        });
        b.promise(38, "both are one", () -> {
            b.due("pays(0, 0, 1)", Told.cloth(THREE).pays(0, 0, 1), -1);
            b.due("pays(0, 0, 295)", Told.cloth(THREE).pays(0, 0, 295), -1);
        });
        b.promise(38, "a sum below 1.", () -> {
            for (int sum : new int[] {0, -1, Boundary.LEAST}) {
                b.due("pays of " + sum, Told.cloth(THREE).pays(0, 1, sum), -1);
            }
        });
    }

    private void paysFewest() {
        b.terms(39, ": the fewest COUNTERS that go or come", () -> {
            ExchequerCloth x = Told.cloth(MONEY + "row 30 5;row 30 5;");
            b.due("6 pence over, not a shilling and 6 back", x.paysOf(0, 1, 6, 0), 6);
            b.due("7: a shilling and 5 back", x.paysOf(0, 1, 7, 0), -5);
        });
        b.terms(39, "of several ways that by which least goes over of COLUMN 0 (what comes back is below 0)", () -> {
            // 2 over, or one of the next column over and 1 back
            ExchequerCloth x = Told.cloth("column 1;column 3;row 10 10;row 10 10;");
            b.due("pays", x.pays(0, 1, 2), 2);
            b.due("of COLUMN 0", x.paysOf(0, 1, 2, 0), -1);
            b.due("of COLUMN 1", x.paysOf(0, 1, 2, 1), 1);
        });
        b.terms(39, "then of COLUMN 1, and so on.", () -> {
            // 6: 2 of COLUMN 1 over, or one of COLUMN 2 over and 1 of COLUMN 1 back
            ExchequerCloth x = Told.cloth("column 1;column 3;column 3;row 0 9 9;row 0 9 9;");
            b.due("pays", x.pays(0, 1, 6), 2);
            b.due("of COLUMN 0", x.paysOf(0, 1, 6, 0), 0);
            b.due("of COLUMN 1", x.paysOf(0, 1, 6, 1), -1);
            b.due("of COLUMN 2", x.paysOf(0, 1, 6, 2), 1);
        });
        b.terms(39, "then of COLUMN 1, and so on.", () -> {
            // the same two columns higher, where only the last two columns are told apart
            ExchequerCloth x = Told.cloth("column 1;column 2;column 2;column 2;column 3;column 3;row 0 0 0 0 9 9;"
                + "row 0 0 0 0 9 9;row 0 0 0 9 9 9;row 0 0 0 9 9 9;");
            b.due("pays", x.pays(0, 1, 48), 2);
            b.due("of COLUMN 4", x.paysOf(0, 1, 48, 4), -1);
            b.due("of COLUMN 5", x.paysOf(0, 1, 48, 5), 1);
            b.due("pays with COLUMN 3", x.pays(2, 3, 16), 2);
            b.due("of COLUMN 3", x.paysOf(2, 3, 16, 3), -1);
        });
    }

    private void paysOf() {
        b.promise(39, "PAYS: how many of a COLUMN go over (below 0: come back)", () -> {
            ExchequerCloth x = Told.cloth(MONEY + "row 0 5;row 30 2;");
            b.due("back", x.paysOf(0, 1, 7, 0), -5);
            b.due("over", x.paysOf(0, 1, 7, 1), 1);
            b.due("neither", x.paysOf(0, 1, 7, 2), 0);
            ExchequerCloth y = Told.cloth("column 1;column 2;row 99 99;row 0 0;");
            b.due("the most", y.paysOf(0, 1, 297, 1), 99);
        });
        b.promise(39, "-1000: it can't be", () -> {
            ExchequerCloth x = Told.cloth(THREE);
            for (int c = 0; c < 3; c++) {
                b.due("more than all", x.paysOf(0, 1, 295, c), -1000);
                b.due("no change", x.paysOf(1, 2, 7, c), -1000);
            }
        });
        b.promise(39, "or no such ones.", () -> {
            ExchequerCloth x = Told.cloth(THREE);
            for (int far : Boundary.outside(3)) {
                b.due("from " + far, x.paysOf(far, 0, 1, 0), -1000);
                b.due("to " + far, x.paysOf(0, far, 1, 0), -1000);
                b.due("column " + far, x.paysOf(0, 1, 1, far), -1000);
            }
            b.due("both are one", x.paysOf(0, 0, 1, 0), -1000);
            b.due("sum 0", x.paysOf(0, 1, 0, 0), -1000);
            b.due("sum MIN", x.paysOf(0, 1, Boundary.LEAST, 0), -1000);
        });
    }
}
