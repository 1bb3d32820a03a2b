/** Promises 46 to 51: slides that explain, moves left out, where to look. */
final class InquestBoundaries {
    private static final String TWO = "column 1;column 2;";
    private static final String THREE = "column 1;column 2;column 2;";
    private static final String MOST = "column 1;column 2;column 2;column 2;column 2;column 2;" + "row 9 9 9 9 9 9;".repeat(4)
        + "put 0 0 1;take 0 0 1;".repeat(12);

    private final Boundary b;

    InquestBoundaries(Boundary boundary) {
        b = boundary;
    }

    void run() {
        whenSlidesExplain();
        movesWithSlides();
        slides();
        slideAt();
        whenLeftOutExplains();
        leftOut();
        times();
        look();
        lookEnds();
    }

    /** Slides as t, row, column, 1 up or 0 down. */
    private static String slidesOf(ExchequerCloth x) {
        StringBuilder all = new StringBuilder();
        for (int i = 0; i < x.slides(); i++) {
            all.append(x.slideAt(i, 0)).append(' ').append(x.slideAt(i, 1)).append(' ').append(x.slideAt(i, 2)).append(' ')
                .append(x.slideAt(i, 3)).append(';');
        }
        return all.toString();
    }

    private void explained(String text, String want) {
        b.same("slides of " + text, slidesOf(Told.cloth(text)), want);
    }

    private static String leftOutOf(ExchequerCloth x) {
        StringBuilder all = new StringBuilder();
        for (int i = 0; i < x.leftOut(); i++) {
            all.append(x.leftOutAt(i)).append(';');
        }
        return all.toString();
    }

    private void leftOut(String text, String want) {
        b.same("left out of " + text, leftOutOf(Told.cloth(text)), want);
    }

    private void whenSlidesExplain() {
        b.terms(46, "It EXPLAINS, if, made behind t MOVES (0 .. all of them", () -> {
            explained(TWO + "row 5 0;put 0 0 1;put 0 0 1;seen 2 0 1 1;", "0 0 0 1;1 0 0 1;2 0 0 1;");
            explained(TWO + "row 5 0;seen 0 0 1 1;", "0 0 0 1;");
            ExchequerCloth full = Told.cloth(TWO + "row 5 0;" + "put 0 0 1;".repeat(24) + "seen 24 0 1 1;");
            b.due("of a full LOG", full.slides(), 25);
            b.due("the last one's t", full.slideAt(24, 0), 24);
        });
        b.terms(46, "ahead of what is SEEN behind these)", () -> {
            explained(TWO + "row 5 0;put 0 0 1;put 0 0 1;seen 0 0 1 1;", "0 0 0 1;");
            explained(TWO + "row 5 0;put 0 0 1;put 0 0 1;seen 1 0 1 1;", "0 0 0 1;1 0 0 1;");
            explained(TWO + "row 5 0;put 0 0 1;put 0 0 1;seen 0 0 1 0;seen 1 0 1 1;", "1 0 0 1;");
            explained(TWO + "row 5 0;put 0 0 1;put 0 0 1;seen 1 0 1 0;seen 2 0 1 1;", "2 0 0 1;");
            explained(TWO + "row 5 0;put 0 0 1;put 0 0 1;seen 2 0 1 0;seen 1 0 1 1;", "");
        });
        b.terms(46, "it can be itself", () -> {
            explained(TWO + "row 0 0;", "");
            explained(TWO + "row 1 0;", "0 0 0 1;");
            explained(TWO + "row 0 1;", "0 0 1 0;");
            explained(TWO + "row 99 99;", "");
            explained(TWO + "row 99 98;", "0 0 0 1;");
            explained(TWO + "row 98 99;", "0 0 1 0;");
            explained("column 1;row 50;", "");
            explained(TWO + "row 0 0;put 0 0 1;", "1 0 0 1;");
        });
        b.terms(46, "and all SEEN are so then.", () -> {
            explained(TWO + "row 5 5;seen 0 0 0 4;", "0 0 0 1;");
            explained(TWO + "row 5 5;seen 0 0 0 4;seen 0 0 1 6;", "0 0 0 1;");
            explained(TWO + "row 5 5;seen 0 0 0 6;", "0 0 1 0;");
            explained(TWO + "row 5 5;seen 0 0 0 4;seen 0 0 1 5;", "");
            explained(TWO + "row 5 5;seen 0 0 0 3;", "");
            explained(TWO + "row 5 5;seen 0 0 0 5;", "");
            explained(TWO + "row 5 5;row 1 1;seen 0 0 0 5;", "0 1 0 1;0 1 1 0;");
            explained(TWO + "row 5 5;row 1 1;seen 0 0 0 4;seen 0 1 0 0;", "");
        });
        b.terms(47, "SLIDES are told by t, then ROW, then COLUMN, down ahead of up.", () -> explained(
            THREE + "row 1 1 1;row 0 1;put 1 2 1;seen 0 0 0 1;",
            "0 0 1 1;0 0 2 0;0 1 1 0;0 1 1 1;1 0 0 1;1 0 1 0;1 0 1 1;1 0 2 0;1 1 1 0;1 1 1 1;1 1 2 0;"));
    }

    private void movesWithSlides() {
        b.terms(46, "all MOVES of THE LOG can be (those ahead of it as they stand there", () -> {
            ExchequerCloth below = Told.cloth(TWO + "row 0 2;");
            below.slide(0, 1, false);
            below.put(true, 0, 0, 1);
            below.put(false, 0, 0, 1);
            b.same("a take below 0 by THE LOG", slidesOf(below), "0 0 1 0;");
            ExchequerCloth above = Told.cloth(TWO + "row 99 0;");
            above.slide(0, 0, true);
            above.put(false, 0, 0, 1);
            above.put(true, 0, 0, 5);
            b.same("a put above 99 by THE LOG", slidesOf(above), "0 0 0 1;");
            ExchequerCloth twice = Told.cloth(TWO + "row 0 2;");
            twice.slide(0, 1, false);
            twice.slide(0, 1, false);
            twice.put(true, 0, 0, 2);
            b.same("two slides, where one is not enough", slidesOf(twice), "");
        });
        b.terms(46, "those behind it then)", () -> {
            explained(TWO + "row 1 0;take 0 0 1;", "");
            explained(TWO + "row 2 0;take 0 0 1;", "0 0 0 1;1 0 0 1;");
            explained(TWO + "row 1 98;put 0 1 1;", "0 0 1 0;1 0 1 0;");
            explained(TWO + "row 2 0;carry 0 0;", "1 0 1 0;");
            explained(TWO + "row 97 1;break 0 1;", "0 0 0 1;1 0 0 1;");
            explained(TWO + "row 1 0;row 0 0;shift 0 1 0 1;", "1 1 0 1;");
            explained(TWO + "row 1 0;row 98 1;shift 0 1 0 1;", "0 1 0 1;1 1 0 1;");
        });
    }

    private void slides() {
        b.promise(46, "How many SLIDES EXPLAIN.", () -> {
            b.due("a new object", new ExchequerCloth().slides(), 0);
            b.due("no ROWS", Told.cloth(TWO).slides(), 0);
            b.due("nothing SEEN", Told.cloth(THREE + "row 1 1 1;").slides(), 4);
            b.due("the most", Told.cloth(MOST).slides(), 1000);
        });
        b.promise(46, "How many SLIDES EXPLAIN.", () -> {
            ExchequerCloth x = Told.cloth(TWO + "row 5 5;seen 0 0 0 4;");
            b.due("slides", x.slides(), 1);
            x.see(0, 0, 1, 5);
            b.due("behind see", x.slides(), 0);
            x.undo();
            b.due("behind undo", x.slides(), 1);
            x.unsee(0);
            b.due("behind unsee", x.slides(), 2);
            x.put(false, 0, 0, 1);
            b.due("behind put", x.slides(), 4);
            x.strike();
            b.due("behind strike", x.slides(), 2);
            x.slide(0, 0, true);
            b.due("whatever slid", x.slides(), 2);
        });
    }

    private void slideAt() {
        b.promise(47, "Of the i-th SLIDE that EXPLAINS: 0 t, 1 ROW, 2 COLUMN, 3: 1 up, 0 down, 4 by how much SUM changed "
            + "(may be below 0).", () -> {
            ExchequerCloth x = Told.cloth("column 1;column 12;column 20;row 0;row 5 5 5;put 1 0 1;seen 1 1 1 4;seen 0 1 1 5;");
            int[][] want = {{1, 1, 1, 0, -11}, {1, 1, 1, 1, 228}};
            b.due("slides", x.slides(), 2);
            for (int i = 0; i < 2; i++) {
                for (int what = 0; what < 5; what++) {
                    b.due("slideAt(" + i + ", " + what + ")", x.slideAt(i, what), want[i][what]);
                }
            }
        });
        b.promise(47, "by how much SUM changed (may be below 0)", () -> {
            ExchequerCloth x = Told.cloth("column 1;column 20;column 20;column 20;column 20;column 20;row 0 0 0 0 1 1;"
                + "seen 0 0 3 0;");
            b.due("slides", x.slides(), 2);
            b.due("the greatest", x.slideAt(0, 4), 3040000);
            b.due("the least", x.slideAt(1, 4), -3040000);
        });
        b.promise(47, "NONE - 1: there are not so many", () -> {
            ExchequerCloth x = Told.cloth(THREE + "row 1 1 1;");
            b.due("the last", x.slideAt(3, 2), 2);
            b.due("one more", x.slideAt(4, 2), -2);
            b.due("MAX", x.slideAt(Boundary.MOST, 0), -2);
            b.due("of none", Told.cloth(TWO + "row 0;").slideAt(0, 0), -2);
            ExchequerCloth most = Told.cloth(MOST);
            b.due("the last of the most", most.slideAt(999, 0), 24);
            b.due("behind the most", most.slideAt(1000, 0), -2);
        });
        b.promise(47, "no such ones.", () -> {
            ExchequerCloth x = Told.cloth(THREE + "row 1 1 1;");
            b.due("slideAt(-1, 0)", x.slideAt(-1, 0), -2);
            b.due("slideAt(MIN, 0)", x.slideAt(Boundary.LEAST, 0), -2);
            for (int far : Boundary.outside(5)) {
                b.due("slideAt(0, " + far + ")", x.slideAt(0, far), -2);
            }
        });
    }

    private void whenLeftOutExplains() {
        b.terms(48, "A MOVE LEFT OUT EXPLAINS, if all others can be without it", () -> {
            leftOut("column 1;row 0;put 0 0 1;take 0 0 1;", "1;");
            leftOut("column 1;row 99;take 0 0 1;put 0 0 1;", "1;");
            leftOut("column 1;row 1;put 0 0 1;take 0 0 1;", "0;1;");
            leftOut(TWO + "row 2 0;carry 0 0;take 0 1 1;", "1;");
            leftOut(TWO + "row 0 1;break 0 1;take 0 0 2;", "1;");
            leftOut("column 1;row 1;row 0;shift 0 1 0 1;take 1 0 1;", "1;");
            leftOut("column 1;row 99;row 0;shift 0 1 0 1;put 0 0 1;", "1;");
        });
        b.terms(48, "if all others can be without it", () -> {
            ExchequerCloth below = Told.cloth(TWO + "row 0 1;");
            below.put(false, 0, 1, 1);
            below.slide(0, 1, false);
            below.put(true, 0, 0, 1);
            below.put(false, 0, 0, 1);
            b.same("a take that can't be by THE LOG", leftOutOf(below), "1;");
            below.put(true, 0, 0, 1);
            below.slide(0, 1, false);
            below.put(true, 0, 0, 1);
            b.same("two of them", leftOutOf(below), "");
        });
        b.terms(48, "and all SEEN are so (each behind as many lines of THE LOG as told, that MOVE counted, too).", () -> {
            String text = "column 1;row 5;put 0 0 2;put 0 0 4;take 0 0 3;";
            leftOut(text, "0;1;2;");
            leftOut(text + "seen 0 0 0 5;", "0;1;2;");
            leftOut(text + "seen 0 0 0 7;", "");
            leftOut(text + "seen 1 0 0 7;", "1;2;");
            leftOut(text + "seen 1 0 0 5;", "0;");
            leftOut(text + "seen 2 0 0 7;", "1;");
            leftOut(text + "seen 3 0 0 11;", "2;");
            leftOut(text + "seen 3 0 0 8;", "");
            leftOut(text + "seen 3 0 0 6;seen 1 0 0 5;seen 2 0 0 9;", "0;");
            leftOut(text + "seen 3 0 0 6;seen 1 0 0 7;", "");
        });
        b.terms(48, "and all SEEN are so", () -> {
            leftOut(TWO + "row 9 9;row 9 9;carry 0 0;break 0 1;shift 0 1 0 1;seen 3 0 0 10;", "0;");
            leftOut(TWO + "row 9 9;row 9 9;carry 0 0;break 0 1;shift 0 1 0 1;seen 3 0 0 6;", "1;");
            leftOut(TWO + "row 9 9;row 9 9;carry 0 0;break 0 1;shift 0 1 0 1;seen 3 1 0 9;", "2;");
        });
    }

    private void leftOut() {
        b.promise(48, "How many MOVES, LEFT OUT, each alone, EXPLAIN.", () -> {
            b.due("a new object", new ExchequerCloth().leftOut(), 0);
            b.due("an empty LOG", Told.cloth("column 1;row 5;seen 0 0 0 4;").leftOut(), 0);
            b.due("a full LOG", Told.cloth("column 1;row 5;" + "put 0 0 1;take 0 0 1;".repeat(12)).leftOut(), 24);
            // two puts of 1 are too many, but one alone is left out
            b.due("each alone", Told.cloth("column 1;row 5;put 0 0 1;put 0 0 1;seen 2 0 0 5;").leftOut(), 0);
        });
        b.promise(49, "The i-th MOVE that EXPLAINS, LEFT OUT", () -> {
            ExchequerCloth x = Told.cloth("column 1;row 5;put 0 0 3;put 0 0 1;take 0 0 8;put 0 0 1;seen 4 0 0 1;");
            b.due("leftOut", x.leftOut(), 2);
            b.due("the first", x.leftOutAt(0), 1);
            b.due("the second", x.leftOutAt(1), 3);
            ExchequerCloth full = Told.cloth("column 1;row 5;" + "put 0 0 1;take 0 0 1;".repeat(12));
            b.due("the last of a full LOG", full.leftOutAt(23), 23);
        });
        b.promise(49, "-2: there are not so many.", () -> {
            ExchequerCloth x = Told.cloth("column 1;row 5;put 0 0 1;put 0 0 1;seen 2 0 0 6;");
            b.due("leftOutAt(2)", x.leftOutAt(2), -2);
            b.due("leftOutAt(MAX)", x.leftOutAt(Boundary.MOST), -2);
            b.due("an empty LOG", Told.cloth("column 1;row 5;").leftOutAt(0), -2);
            ExchequerCloth full = Told.cloth("column 1;row 5;" + "put 0 0 1;take 0 0 1;".repeat(12));
            b.due("behind a full LOG", full.leftOutAt(24), -2);
        });
        b.promise(49, "NONE: i below 0.", () -> {
            b.due("leftOutAt(-1)", Told.cloth("column 1;row 5;put 0 0 1;").leftOutAt(-1), -1);
            b.due("leftOutAt(MIN)", Told.cloth("column 1;row 5;put 0 0 1;").leftOutAt(Boundary.LEAST), -1);
        });
        b.terms(49, "Where NONE and -2 could both be told, it is NONE.", () ->
            b.due("leftOutAt(-1) of none", new ExchequerCloth().leftOutAt(-1), -1));
    }

    private void times() {
        b.promise(50, "The times t of SLIDES that EXPLAIN (bits).", () -> {
            b.due("none", new ExchequerCloth().times(), 0);
            b.due("t 0 alone", Told.cloth(TWO + "row 5 0;put 0 0 1;seen 0 0 1 1;").times(), 1);
            b.due("t 1 alone", Told.cloth(TWO + "row 5 0;put 0 0 1;seen 0 0 1 0;seen 1 0 1 1;").times(), 2);
            b.due("t 0 and 1", Told.cloth(TWO + "row 5 0;put 0 0 1;seen 1 0 1 1;").times(), 3);
            b.due("not at first", Told.cloth(TWO + "row 1 0;take 0 0 1;put 0 0 2;take 0 0 1;put 0 0 1;").times(), 28);
            b.due("several of one time", Told.cloth(THREE + "row 1 1 1;").times(), 1);
            b.due("all of a full LOG", Told.cloth(MOST).times(), (1 << 25) - 1);
            b.due("t 24 alone", Told.cloth(TWO + "row 5 0;" + "put 0 0 1;".repeat(24) + "seen 23 0 1 0;seen 24 0 1 1;").times(), 1 << 24);
        });
    }

    private void looked(String what, ExchequerCloth x, int t, int row, int column, int number) {
        b.due("t, " + what, x.look(0), t);
        b.due("ROW, " + what, x.look(1), row);
        b.due("COLUMN, " + what, x.look(2), column);
        b.due("number, " + what, x.look(3), number);
    }

    private void look() {
        b.promise(51, "Where to look: behind t MOVES CELL r c, so that of SLIDES that EXPLAIN the greatest number by which "
            + "like many lie there is least", () -> {
            looked("one SLIDE", Told.cloth(TWO + "row 1 0;"), 0, 0, 0, 1);
            looked("less, more or as many", Told.cloth(THREE + "row 0 1 1;"), 0, 0, 2, 1);
            looked("four times", Told.cloth(TWO + "row 5 0;put 0 0 1;put 0 0 1;put 0 0 1;seen 3 0 1 1;"), 1, 0, 0, 2);
            looked("the other ROW", Told.cloth(TWO + "row 0;row 1 1;"), 0, 1, 0, 1);
        });
        b.promise(51, "behind t MOVES", () -> {
            // five times: behind 2 MOVES three lie less, two as many; a slide behind t MOVES is ahead of a look there
            looked("five times", Told.cloth(TWO + "row 5 0;" + "put 0 0 1;".repeat(4) + "seen 4 0 1 1;"), 1, 0, 0, 3);
            looked("two times", Told.cloth(TWO + "row 5 0;put 0 0 1;seen 1 0 1 1;"), 0, 0, 0, 1);
            looked("at the last time", Told.cloth(TWO + "row 0 0;put 0 0 1;put 0 1 1;seen 1 0 0 1;"), 2, 0, 0, 1);
        });
        b.promise(51, "of several the least t, then ROW, then COLUMN", () -> {
            looked("three times", Told.cloth(TWO + "row 5 0;put 0 0 1;put 0 0 1;seen 2 0 1 1;"), 0, 0, 0, 2);
            looked("two ROWS", Told.cloth(TWO + "row 1 1;row 1 1;"), 0, 0, 0, 2);
            looked("three COLUMNS", Told.cloth(THREE + "row 1 1 1;"), 0, 0, 0, 2);
        });
        b.promise(51, ": what 0 t, 1 r, 2 c, 3 that number.", () ->
            looked("the last CELL", Told.cloth(THREE + "row 0;row 0;row 0;row 0 1 1;"), 0, 3, 2, 1));
    }

    private void lookEnds() {
        b.promise(51, "NONE: no SLIDES EXPLAIN", () -> {
            for (int what = 0; what < 4; what++) {
                b.due("a new object, " + what, new ExchequerCloth().look(what), -1);
                b.due("no SLIDES, " + what, Told.cloth(TWO + "row 5 5;seen 0 0 0 1;").look(what), -1);
            }
        });
        b.promise(51, "no such what.", () -> {
            for (int far : Boundary.outside(4)) {
                b.due("look(" + far + ")", Told.cloth(TWO + "row 1 0;").look(far), -1);
            }
        });
    }
}
