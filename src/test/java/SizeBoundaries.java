/** The largest cloth (six columns, four rows), the smallest one, and answers that were kept from before. */
final class SizeBoundaries {
    private static final String AT_MOST_6 = "COLUMNS 0, 1 .. (at most 6)";
    private static final String AT_MOST_4 = "ROWS 0, 1 .. (at most 4).";
    private static final String TWOS = "column 1;column 2;column 2;column 2;column 2;column 2;";
    private static final String[] ROW = {"row 1 2 3 4 5 6;", "row 11 12 13 14 15 16;", "row 21 22 23 24 25 26;",
        "row 31 32 33 34 35 36;"};
    private static final String LARGEST = TWOS + ROW[0] + ROW[1] + ROW[2] + ROW[3];
    private static final String EMPTY = "row 0 0 0 0 0 0;";

    private final Boundary b;

    SizeBoundaries(Boundary boundary) {
        b = boundary;
    }

    void run() {
        actsOnTheLargest();
        payOnTheLargest();
        askedOfTheLargest();
        logOfTheLargest();
        smallest();
        rowsToldApart();
        keptFromBefore();
        payingsKeptFromBefore();
        looksKeptFromBefore();
    }

    /** The largest cloth with one row as it is given. */
    private static String with(int row, String text) {
        StringBuilder all = new StringBuilder(TWOS);
        for (int r = 0; r < 4; r++) {
            all.append(r == row ? text : ROW[r]);
        }
        return all.toString();
    }

    private void actsOnTheLargest() {
        String[] twice = {"row 2 4 6 8 10 12;", "row 22 24 26 28 30 32;", "row 42 44 46 48 50 52;", "row 62 64 66 68 70 72;"};
        b.terms(15, AT_MOST_6, () -> {
            for (int r = 0; r < 4; r++) {
                ExchequerCloth x = Told.cloth(LARGEST);
                x.doubled(r);
                b.spells(x, with(r, twice[r]));
            }
        });
        b.terms(14, AT_MOST_6, () -> {
            ExchequerCloth x = Told.cloth(LARGEST);
            x.join(0, 1);
            b.spells(x, TWOS + EMPTY + "row 12 14 16 18 20 22;" + ROW[2] + ROW[3]);
            x.join(3, 0);
            b.spells(x, TWOS + ROW[3] + "row 12 14 16 18 20 22;" + ROW[2] + EMPTY);
            x.join(2, 3);
            b.spells(x, TWOS + ROW[3] + "row 12 14 16 18 20 22;" + EMPTY + ROW[2]);
        });
        b.terms(18, AT_MOST_6, () -> {
            for (int r = 0; r < 4; r++) {
                ExchequerCloth x = Told.cloth(LARGEST);
                x.clear(r);
                b.spells(x, with(r, EMPTY));
            }
        });
        b.terms(13, AT_MOST_6, () -> {
            String[] plain = {"row 1 0 0 0 0 10;", "row 1 1 1 0 1 29;", "row 1 0 1 1 0 49;", "row 1 1 0 0 0 69;"};
            for (int r = 0; r < 4; r++) {
                ExchequerCloth x = Told.cloth(LARGEST);
                x.plain(r);
                b.spells(x, with(r, plain[r]));
            }
        });
        b.terms(7, AT_MOST_4, () -> {
            ExchequerCloth x = Told.cloth(LARGEST);
            x.drop(3);
            b.spells(x, TWOS + ROW[0] + ROW[1] + ROW[2]);
            x.drop(0);
            b.spells(x, TWOS + ROW[1] + ROW[2]);
            x.row();
            x.row();
            b.spells(x, TWOS + ROW[1] + ROW[2] + EMPTY + EMPTY);
        });
    }

    private void payOnTheLargest() {
        b.terms(17, AT_MOST_6, () -> {
            // one of each column is worth 63
            ExchequerCloth x = Told.cloth(TWOS + "row 1 1 1 1 1 1;" + ROW[1] + EMPTY + ROW[3]);
            b.due("pay(0, 2, 63)", x.pay(0, 2, 63), 6);
            b.spells(x, TWOS + EMPTY + ROW[1] + "row 1 1 1 1 1 1;" + ROW[3]);
            ExchequerCloth y = Told.cloth(TWOS + ROW[0] + EMPTY + ROW[2] + "row 1 1 1 1 1 1;");
            b.due("pay(3, 1, 63)", y.pay(3, 1, 63), 6);
            b.spells(y, TWOS + ROW[0] + "row 1 1 1 1 1 1;" + ROW[2] + EMPTY);
        });
        b.terms(38, "none below 0, above 99 then", () -> {
            ExchequerCloth x = Told.cloth("column 1;column 2;column 2;row 0 0 1;row 3;");
            b.due("change across an empty column", x.pays(0, 1, 1), 4);
            b.due("of COLUMN 0", x.paysOf(0, 1, 1, 0), -3);
            b.due("of COLUMN 1", x.paysOf(0, 1, 1, 1), 0);
            b.due("of COLUMN 2", x.paysOf(0, 1, 1, 2), 1);
        });
        b.terms(38, ": the fewest COUNTERS that go or come", () -> {
            b.due("of many ways", Told.cloth("column 1;column 2;row 50 50;row 0;").pays(0, 1, 21), 11);
            b.due("where ways that can't be lie between", Told.cloth("column 1;column 2;column 2;row 50 0 50;row 0;")
                .pays(0, 1, 21), 6);
        });
    }

    private void askedOfTheLargest() {
        b.terms(53, AT_MOST_6, () -> {
            ExchequerCloth x = Told.cloth(LARGEST);
            b.same("report(0)", Told.reported(x, 0), "6 of 32;5 of 16;4 of 8;3 of 4;2 of 2;1 of 1;sum 321;");
            b.same("report(3)", Told.reported(x, 3), "36 of 32;35 of 16;34 of 8;33 of 4;32 of 2;31 of 1;sum 2211;");
        });
        b.terms(32, AT_MOST_6, () -> {
            ExchequerCloth x = Told.cloth(TWOS + "row 64;row 0 0 0 0 0 2;row 0 0 0 0 0 2;row 64;");
            b.due("apart(0, 1)", x.apart(0, 1), 62);
            b.due("apart(2, 3)", x.apart(2, 3), 62);
            b.due("apart(0, 3)", x.apart(0, 3), 0);
        });
        b.terms(35, AT_MOST_6, () -> {
            ExchequerCloth x = Told.cloth(LARGEST);
            b.due("taken(0, 63, NONE)", x.taken(0, 63, -1), 6);
            b.due("taken(3, 2211, NONE)", x.taken(3, 2211, -1), 201);
            b.due("taken(3, 2211, 5)", x.taken(3, 2211, 5), 36);
        });
        b.terms(29, AT_MOST_6, () -> {
            ExchequerCloth x = Told.cloth(LARGEST);
            b.due("carries(0)", x.carries(0), 0 + 1 + 2 + 3 + 4);
            b.due("carries(3)", x.carries(3), 15 + 23 + 28 + 31 + 33);
        });
        b.terms(16, AT_MOST_6, () -> {
            ExchequerCloth x = Told.cloth(LARGEST);
            b.due("halve(3)", x.halve(3), 1);
            b.spells(x, with(3, "row 1 0 0 0 1 34;"));
        });
    }

    private void logOfTheLargest() {
        b.terms(42, AT_MOST_4, () -> {
            ExchequerCloth x = Told.cloth(LARGEST + "put 0 0 1;".repeat(24));
            for (int t = 0; t <= 24; t++) {
                b.due("sumAt(" + t + ")", x.sumAt(t), 321 + 951 + 1581 + 2211 + t);
            }
        });
        b.terms(41, AT_MOST_4, () -> {
            ExchequerCloth x = Told.cloth(LARGEST + "put 3 5 1;".repeat(24));
            for (int r = 0; r < 4; r++) {
                for (int c = 0; c < 6; c++) {
                    int last = r == 3 && c == 5 ? 24 : 0;
                    b.due("at(0, " + r + ", " + c + ")", x.at(0, r, c), 10 * r + c + 1);
                    b.due("at(24, " + r + ", " + c + ")", x.at(24, r, c), 10 * r + c + 1 + last);
                }
            }
        });
        b.terms(51, AT_MOST_6, () -> {
            // the one SLIDE less, more or none is told apart best in ROW 1, behind a ROW of six COLUMNS
            ExchequerCloth x = Told.cloth(TWOS + EMPTY + "row 1 1;" + EMPTY + EMPTY);
            b.due("slides", x.slides(), 3);
            b.due("look(0)", x.look(0), 0);
            b.due("look(1)", x.look(1), 1);
            b.due("look(2)", x.look(2), 0);
            b.due("look(3)", x.look(3), 1);
            b.due("look(3) of the last ROW", Told.cloth(TWOS + EMPTY + EMPTY + EMPTY + "row 1 1;").look(1), 3);
        });
        b.terms(11, "SEEN (at most 12)", () -> {
            ExchequerCloth x = Told.cloth("column 1;row 5;put 0 0 1;put 0 0 1;" + "seen 1 0 0 6;".repeat(12));
            b.due("strike, where none of 12 SEEN goes", x.strike(), 1);
            b.due("count(3)", x.count(3), 12);
            b.due("strike, where all of 12 SEEN go", x.strike(), 0);
            b.due("count(3)", x.count(3), 0);
        });
        b.promise(11, "(SEEN behind it, too)", () -> {
            ExchequerCloth x = Told.cloth("column 1;row 5;put 0 0 1;seen 0 0 0 5;seen 1 0 0 6;");
            x.strike();
            b.spells(x, "column 1;row 5;seen 0 0 0 5;");
            ExchequerCloth y = Told.cloth("column 1;row 5;put 0 0 1;seen 0 0 0 5;seen 1 0 0 6;");
            y.unsee(1);
            b.due("behind unsee of the last one", y.strike(), 0);
            b.due("count(3)", y.count(3), 1);
        });
    }

    private void smallest() {
        String one = "column 1;row 5;row 98;";
        b.terms(34, "COLUMNS 0", () -> {
            b.due("ways(0, 5) of one COLUMN", Told.cloth(one).ways(0, 5), 1);
            b.due("ways(0, 6) of one COLUMN", Told.cloth(one).ways(0, 6), 0);
        });
        b.terms(36, "COLUMNS 0", () -> {
            b.due("breaks(0, 5) of one COLUMN", Told.cloth(one).breaks(0, 5), 0);
            b.due("breaks(0, 6) of one COLUMN", Told.cloth(one).breaks(0, 6), -2);
        });
        b.terms(38, "COLUMNS 0", () -> {
            b.due("pays(0, 1, 1) of one COLUMN", Told.cloth(one).pays(0, 1, 1), 1);
            b.due("pays(0, 1, 2) of one COLUMN", Told.cloth(one).pays(0, 1, 2), -2);
            b.due("paysOf(0, 1, 1, 0) of one COLUMN", Told.cloth(one).paysOf(0, 1, 1, 0), 1);
            b.due("paysOf(1, 0, 94, 0) of one COLUMN", Told.cloth(one).paysOf(1, 0, 94, 0), 94);
        });
        b.terms(32, "COLUMNS 0", () -> {
            b.due("apart(0, 1) of one COLUMN", Told.cloth(one).apart(0, 1), -2);
            b.due("apart(1, 1) of one COLUMN", Told.cloth(one).apart(1, 1), 0);
            b.due("taken(1, 98, NONE) of one COLUMN", Told.cloth(one).taken(1, 98, -1), 98);
            b.due("missing(1) of one COLUMN", Told.cloth(one).missing(1), 99);
        });
    }

    private void rowsToldApart() {
        b.terms(17, "ROWS 0, 1 ..", () -> {
            ExchequerCloth x = Told.cloth("column 1;column 2;row 1 1;row 2 2;row 3 3;row 4 4;");
            b.due("pay(3, 1, 12)", x.pay(3, 1, 12), 8);
            b.spells(x, "column 1;column 2;row 1 1;row 6 6;row 3 3;row 0 0;");
        });
        b.terms(14, "ROWS 0, 1 ..", () -> {
            ExchequerCloth x = Told.cloth("column 1;column 2;row 99 99;row 1 1;row 98 98;row 2 2;");
            b.due("join(3, 2)", x.join(3, 2), -1);
            b.due("join(1, 2)", x.join(1, 2), 297);
        });
        b.terms(26, "ROWS 0, 1 ..", () -> {
            ExchequerCloth x = Told.cloth("column 1;column 2;row 1 1;row 2 2;row 3 3;row 4 4;");
            for (int r = 0; r < 4; r++) {
                b.due("counters(" + r + ")", x.counters(r), 2 * r + 2);
                b.due("sum(" + r + ")", x.sum(r), 3 * r + 3);
            }
        });
        b.terms(33, "ROWS 0, 1 ..", () -> {
            ExchequerCloth x = Told.cloth("column 1;column 2;row 1 0;row 5 0;row 3 0;row 5 0;");
            b.due("fullest", x.fullest(), 10);
        });
        b.terms(34, "ROWS 0, 1 ..", () -> {
            ExchequerCloth x = Told.cloth("column 1;column 10;row 0 5;row 0 1;row 90;row 5;");
            int[] ways = {1, 0, 1, 0};
            for (int r = 0; r < 4; r++) {
                b.due("ways(" + r + ", 50)", x.ways(r, 50), ways[r]);
            }
        });
        b.terms(34, "of each COLUMN some of its COUNTERS", () -> {
            ExchequerCloth x = Told.cloth("column 1;column 12;column 20;row 0 5 1;row 0 0 5;");
            b.due("two pounds of one", x.ways(0, 480), 0);
            b.due("five pounds of five", x.ways(1, 1200), 1);
            b.due("six pounds of five", x.ways(1, 1440), 0);
        });
    }

    private void keptFromBefore() {
        b.promise(4, "all anew", () -> {
            ExchequerCloth x = Told.cloth("column 1;column 2;row 5 5;row 5 5;put 0 0 1;seen 1 0 0 5;");
            askAll(x);
            Told.text(x, "column 1;column 3;row 9 0;row 0 9;");
            b.same("behind a text", State.of(x), State.of(Told.cloth("column 1;column 3;row 9 0;row 0 9;")));
            b.due("pays(0, 1, 3)", x.pays(0, 1, 3), 3);
            b.same("report(0)", Told.reported(x, 0), "9 of 1;sum 9;");
            b.spells(x, "column 1;column 3;row 9 0;row 0 9;");
        });
        b.promise(4, "all anew", () -> {
            String logged = "column 1;row 5;put 0 0 1;seen 1 0 0 6;";
            ExchequerCloth columns = Told.cloth(logged);
            Told.text(columns, "column 1;");
            b.same("behind a text of COLUMNS alone", State.of(columns), State.of(Told.cloth("column 1;")));
            ExchequerCloth none = Told.cloth(logged);
            b.due("an empty text", none.text(), 0);
            b.same("behind an empty text", State.of(none), State.of(new ExchequerCloth()));
        });
        b.promise(3, "The last n bytes of the tape go", () -> {
            // what went is no part of the text, though it stood there
            ExchequerCloth x = new ExchequerCloth();
            Told.feed(x, "column 1;row 5;");
            x.back(1);
            b.due("without the last ;", x.text(), -4 - 14);
            Told.feed(x, "column 1;column 2;row 5 6;");
            x.back(3);
            b.due("without the last N ;", x.text(), -4 - 23);
            Told.feed(x, "column 1;column 12;");
            x.back(2);
            b.due("without the last digit, a RATIO of 1", x.text(), -4 - 16);
            Told.feed(x, "column 1;row 5;");
            x.back(6);
            b.due("without the last line", x.text(), 0);
        });
        b.terms(4, "WORDS are small letters as far as they go on", () -> {
            b.faults("^columnz 1;");
            b.faults("^columna 1;");
            b.faults("^xolumn 1;");
            b.faults("^zolumn 1;");
            b.faults("column^{ 1;");
            b.faults("column^` 1;");
        });
        b.promise(53, "A ROW as a TEXT", () -> {
            ExchequerCloth x = Told.cloth("column 1;row 5;row 6;");
            b.due("spell(0)", x.spell(0), 'c');
            b.due("report(0, 0) behind spell", x.report(0, 0), '5');
            b.due("report(1, 0) behind report(0)", x.report(1, 0), '6');
            b.due("spell(0) behind report", x.spell(0), 'c');
            b.due("report(1, 0) once more behind spell", x.report(1, 0), '6');
            x.put(false, 1, 0, 1);
            b.due("report(1, 0) behind put", x.report(1, 0), '7');
            x.undo();
            b.due("report(1, 0) behind undo", x.report(1, 0), '6');
        });
    }

    private static void askAll(ExchequerCloth x) {
        State.of(x);
        x.pays(0, 1, 3);
        x.report(0, 0);
        x.spell(0);
    }

    private void payingsKeptFromBefore() {
        b.promise(38, "PAYS: how many COUNTERS go and come", () -> {
            ExchequerCloth x = Told.cloth("column 1;column 12;column 20;row 5 1;row 5 1;row 0 1;");
            b.due("pays(0, 1, 11)", x.pays(0, 1, 11), 2);
            b.due("pays(0, 2, 11), to another", x.pays(0, 2, 11), -2);
            b.due("pays(2, 1, 11)", x.pays(2, 1, 11), 2);
            b.due("pays(2, 1, 10), another sum", x.pays(2, 1, 10), 3);
            b.due("pays(0, 1, 10), from another", x.pays(0, 1, 10), 3);
            b.due("pays(0, 1, 5)", x.pays(0, 1, 5), 5);
            b.due("pays(2, 1, 5), from another", x.pays(2, 1, 5), -2);
            b.due("pays(0, 1, 5), from the first again", x.pays(0, 1, 5), 5);
            b.due("pays(1, 2, 11), without change", x.pays(1, 2, 11), -2);
            b.due("pays(1, 0, 11), to the first", x.pays(1, 0, 11), 2);
            b.due("paysOf(0, 1, 1, 0)", x.paysOf(0, 1, 1, 0), 1);
        });
        b.promise(38, "PAYS: how many COUNTERS go and come", () -> {
            ExchequerCloth x = Told.cloth("column 1;column 12;row 5 1;row 5 1;");
            b.due("pays(0, 1, 7)", x.pays(0, 1, 7), 6);
            x.put(true, 1, 0, 1);
            b.due("behind an act", x.pays(0, 1, 7), -2);
            x.undo();
            b.due("behind undo", x.pays(0, 1, 7), 6);
            b.due("pay(0, 1, 7)", x.pay(0, 1, 7), 6);
            b.due("pays(0, 1, 7) once more", x.pays(0, 1, 7), 7);
        });
        b.promise(46, "How many SLIDES EXPLAIN.", () -> {
            ExchequerCloth x = Told.cloth("column 1;column 2;row 0 2;");
            x.slide(0, 1, false);
            x.put(true, 0, 0, 1);
            b.due("where a MOVE can't be BY THE LOG", x.slides(), 1);
            x.undo();
            b.due("behind undo of that MOVE", x.slides(), 1);
            b.due("its COLUMN", x.slideAt(0, 2), 1);
            x.put(false, 0, 0, 1);
            b.due("behind another MOVE", x.slides(), 3);
        });
        b.terms(46, "all MOVES of THE LOG can be", () -> {
            ExchequerCloth full = Told.cloth("column 1;column 2;row 99 0;row 1 0;");
            b.due("beside a full CELL", full.slides(), 2);
            ExchequerCloth above = Told.cloth("column 1;column 2;row 99 0;row 5 5;");
            above.slide(0, 0, true);
            above.put(false, 0, 0, 1);
            b.due("only in the CELL that has 100 BY THE LOG", above.slides(), 1);
            b.due("its ROW", above.slideAt(0, 1), 0);
            ExchequerCloth below = Told.cloth("column 1;column 2;row 5 5;row 0 2;");
            below.slide(1, 1, false);
            below.put(true, 1, 0, 1);
            b.due("only in the CELL that has -1 BY THE LOG", below.slides(), 1);
            b.due("its ROW", below.slideAt(0, 1), 1);
        });
    }

    private void looksKeptFromBefore() {
        b.promise(51, "of several the least t, then ROW, then COLUMN", () -> {
            ExchequerCloth x = Told.cloth("column 1;column 2;column 2;row 0;row 0;row 0;row 0 1 1;");
            b.due("look(1)", x.look(1), 3);
            x.see(0, 3, 0, 1);
            b.due("slides", x.slides(), 1);
            int[] want = {0, 0, 0, 1};
            for (int what = 0; what < 4; what++) {
                b.due("look(" + what + ") of one SLIDE alone", x.look(what), want[what]);
            }
        });
    }
}
