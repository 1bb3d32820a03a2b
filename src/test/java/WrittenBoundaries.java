/** Promises 52 to 54: texts of cloth and log, and counts. */
final class WrittenBoundaries {
    private static final String MONEY = "column 1;column 12;column 20;";
    private static final String DEAR = "column 1;column 20;column 20;column 20;column 20;column 20;";

    private final Boundary b;

    WrittenBoundaries(Boundary boundary) {
        b = boundary;
    }

    void run() {
        spell();
        spellEnds();
        report();
        reportEnds();
        count();
        countRows();
    }

    private void spell() {
        b.promise(52, "COLUMNS, the BEGINNING, THE LOG, SEEN as a TEXT (of a ROW all COLUMNS), in this order", () -> {
            ExchequerCloth x = Told.cloth("column 01;column 12;row 5;row 30 00;seen 0 0 0 07;");
            x.put(false, 0, 0, 9);
            x.put(true, 1, 0, 3);
            x.carry(false, 0, 0);
            x.carry(true, 0, 1);
            x.shift(1, 0, 0, 2);
            x.see(5, 1, 1, 0);
            b.spells(x, "column 1;column 12;row 5 0;row 30 0;put 0 0 9;take 1 0 3;carry 0 0;break 0 1;shift 1 0 0 2;"
                + "seen 0 0 0 7;seen 5 1 1 0;");
        });
        b.promise(52, "the BEGINNING", () -> {
            ExchequerCloth x = Told.cloth("column 1;column 2;row 5 5;");
            x.slide(0, 0, true);
            b.spells(x, "column 1;column 2;row 5 5;");
            x.start();
            b.spells(x, "column 1;column 2;row 4 6;");
        });
        b.promise(52, "one blank between WORDS and N, none else, no line ends", () -> {
            b.spells(Told.cloth(" column  1 ;\n\nrow\n5 ; put 0  0\n1 ;\nseen 1 0 0 6 ; "), "column 1;row 5;put 0 0 1;seen 1 0 0 6;");
        });
        b.promise(52, "as a TEXT", () -> {
            String text = DEAR + "row 1 2 3 4 5 6;row 99 0 0 0 0 99;put 0 0 98;shift 1 0 5 93;seen 2 0 5 99;";
            ExchequerCloth x = Told.cloth(text);
            b.spells(x, text);
            b.spells(Told.cloth(Told.spelled(x)), text);
        });
    }

    private void spellEnds() {
        b.promise(52, ": i NONE how many bytes", () -> {
            b.due("a new object", new ExchequerCloth().spell(-1), 0);
            b.due("one column", Told.cloth("column 1;").spell(-1), 9);
            ExchequerCloth x = longest();
            b.due("the longest", x.spell(-1), 59 + 4 * 22 + 24 * 15 + 12 * 15);
        });
        b.promise(52, "0 on: the i-th", () -> {
            ExchequerCloth x = Told.cloth("column 1;row 5;");
            b.due("the first", x.spell(0), 'c');
            b.due("a blank", x.spell(6), 32);
            b.due("the last", x.spell(14), ';');
            b.due("the last of the longest", longest().spell(686), ';');
        });
        b.promise(52, "-2: there are not so many.", () -> {
            b.due("a new object", new ExchequerCloth().spell(0), -2);
            b.due("one behind the last", Told.cloth("column 1;row 5;").spell(15), -2);
            b.due("MAX", Told.cloth("column 1;row 5;").spell(Boundary.MOST), -2);
            b.due("behind the longest", longest().spell(687), -2);
        });
        b.promise(52, "NONE: i below NONE.", () -> {
            b.due("spell(-2)", Told.cloth("column 1;row 5;").spell(-2), -1);
            b.due("spell(MIN)", Told.cloth("column 1;row 5;").spell(Boundary.LEAST), -1);
            b.due("a new object", new ExchequerCloth().spell(-2), -1);
        });
    }

    /** Every number of two digits that can have two. */
    private static ExchequerCloth longest() {
        ExchequerCloth x = Told.cloth(DEAR + "row 99 99 99 99 99 50;".repeat(4));
        for (int i = 0; i < 12; i++) {
            x.shift(0, 1, 5, 49);
            x.shift(1, 0, 5, 49);
        }
        for (int i = 0; i < 12; i++) {
            x.see(24, 3, 5, 99);
        }
        return x;
    }

    private void report() {
        b.promise(53, "A ROW as a TEXT: for each COLUMN with COUNTERS, the highest first, N of N; (how many, WORTH), then sum N;, "
            + "one blank between WORDS and N, none else", () -> {
            ExchequerCloth x = Told.cloth(MONEY + "row 30 2 1;row 0 5;row 0;row 9 0 10;");
            b.same("report(0)", Told.reported(x, 0), "1 of 240;2 of 12;30 of 1;sum 294;");
            b.same("report(1)", Told.reported(x, 1), "5 of 12;sum 60;");
            b.same("an empty ROW", Told.reported(x, 2), "sum 0;");
            b.same("report(3)", Told.reported(x, 3), "10 of 240;9 of 1;sum 2409;");
        });
        b.promise(53, "(how many, WORTH), then sum N;", () -> {
            ExchequerCloth x = Told.cloth(DEAR + "row 99 99 99 99 99 99;");
            b.same("the longest", Told.reported(x, 0), "99 of 3200000;99 of 160000;99 of 8000;99 of 400;99 of 20;99 of 1;"
                + "sum 333473679;");
        });
        b.promise(53, "A ROW as a TEXT", () -> {
            ExchequerCloth x = Told.cloth("column 1;column 2;row 5 5;");
            x.slide(0, 0, true);
            b.same("as it lies, not BY THE LOG", Told.reported(x, 0), "6 of 2;4 of 1;sum 16;");
        });
    }

    private void reportEnds() {
        b.promise(53, ": i NONE how many bytes", () -> {
            b.due("an empty ROW", Told.cloth("column 1;row 0;").report(0, -1), 6);
            b.due("the longest", Told.cloth(DEAR + "row 99 99 99 99 99 99;").report(0, -1), 79);
        });
        b.promise(53, "0 on: the i-th", () -> {
            ExchequerCloth x = Told.cloth("column 1;row 0;");
            b.due("the first", x.report(0, 0), 's');
            b.due("the last", x.report(0, 5), ';');
        });
        b.promise(53, "-2: there are not so many.", () -> {
            ExchequerCloth x = Told.cloth("column 1;row 0;");
            b.due("one behind the last", x.report(0, 6), -2);
            b.due("MAX", x.report(0, Boundary.MOST), -2);
        });
        b.promise(53, "NONE: no such ROW", () -> {
            ExchequerCloth x = Told.cloth("column 1;row 0;row 1;");
            for (int far : Boundary.outside(2)) {
                b.due("report(" + far + ", -1)", x.report(far, -1), -1);
                b.due("report(" + far + ", 0)", x.report(far, 0), -1);
                b.due("report(" + far + ", 99)", x.report(far, 99), -1);
            }
            b.due("a new object", new ExchequerCloth().report(0, 0), -1);
        });
        b.promise(53, "i below NONE.", () -> {
            b.due("report(0, -2)", Told.cloth("column 1;row 0;").report(0, -2), -1);
            b.due("report(0, MIN)", Told.cloth("column 1;row 0;").report(0, Boundary.LEAST), -1);
        });
        b.terms(53, "Where NONE and -2 could both be told, it is NONE.", () ->
            b.due("no such ROW, not so many bytes", Told.cloth("column 1;row 0;").report(1, 700), -1));
    }

    private void count() {
        b.promise(54, "0 COLUMNS, 1 ROWS, 2 MOVES in THE LOG, 3 SEEN, 4 ACTS that can be undone, 5 bytes of the tape", () -> {
            ExchequerCloth x = Told.cloth(DEAR + "row 99;row 98;row 97;row 96;" + "take 0 0 1;".repeat(24));
            for (int i = 0; i < 12; i++) {
                x.see(24, 0, 0, 75);
            }
            for (int i = 0; i < 20; i++) {
                x.feed(0, 0, 0, 0, 0);
            }
            int[] most = {6, 4, 24, 12, 12, 400};
            for (int what = 0; what < 6; what++) {
                b.due("count(" + what + "), the most", x.count(what), most[what]);
                b.due("count(" + what + ") of a new object", new ExchequerCloth().count(what), 0);
            }
        });
        b.promise(54, "NONE for others.", () -> {
            for (int far : Boundary.outside(8)) {
                b.due("count(" + far + ")", Told.cloth(MONEY + "row 1;").count(far), -1);
            }
        });
    }

    private void countRows() {
        b.terms(54, "A ROW is PLAIN, if it lies so.", () -> {
            b.due("as much as goes in", Told.cloth(MONEY + "row 11 19 99;").count(6), 1);
            b.due("a penny more", Told.cloth(MONEY + "row 12 19 99;").count(6), 0);
            b.due("a shilling more", Told.cloth(MONEY + "row 11 20 99;").count(6), 0);
        });
        b.promise(54, "6 ROWS that are PLAIN (bits)", () -> {
            b.due("no ROWS", Told.cloth(MONEY).count(6), 0);
            b.due("all, empty", Told.cloth(MONEY + "row 0;row 0;row 0;row 0;").count(6), 15);
            b.due("the second and the last", Told.cloth(MONEY + "row 12;row 11;row 99 99;row 0 0 99;").count(6), 10);
            b.due("none", Told.cloth(MONEY + "row 12;row 0 20;").count(6), 0);
            b.due("one column", Told.cloth("column 1;row 99;row 0;").count(6), 3);
        });
        b.promise(54, "7 the ROW of the greatest SUM, of several the first (NONE without).", () -> {
            b.due("without", Told.cloth(MONEY).count(7), -1);
            b.due("a new object", new ExchequerCloth().count(7), -1);
            b.due("all empty", Told.cloth(MONEY + "row 0;row 0;").count(7), 0);
            b.due("the last", Told.cloth(MONEY + "row 0 1;row 12;row 11;row 13;").count(7), 3);
            b.due("of several the first", Told.cloth(MONEY + "row 11;row 0 1;row 12;").count(7), 1);
            b.due("the greatest", Told.cloth(DEAR + "row 98 99 99 99 99 99;row 99 99 99 99 99 99;").count(7), 1);
        });
    }
}
