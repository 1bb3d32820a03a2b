/** Promise 4 by the terms: what stands in a TEXT, and each kind of FAULT. */
final class FaultBoundaries {
    private static final String SIX = "column 1;column 2;column 20;column 2;column 20;column 2;";
    private static final String CLOTH = "column 1;column 10;row 50 50;row 0 99;";
    private static final String MADE = CLOTH + "put 0 0 1;";

    private final Boundary b;

    FaultBoundaries(Boundary boundary) {
        b = boundary;
    }

    void run() {
        columnsAndRows();
        signs();
        blanks();
        numbers();
        tooMany();
        movesThatCannotBe();
        order();
        tooEarly();
    }

    private void columnsAndRows() {
        b.terms(4, "COLUMNS 0, 1 .. (at most 6), each with a RATIO", () -> {
            ExchequerCloth x = Told.cloth(SIX);
            b.due("count(0)", x.count(0), 6);
            b.due("worth(5, 0)", x.worth(5, 0), 2);
            b.due("worth(6, 0)", x.worth(6, 0), -1);
        });
        b.terms(4, "1 of COLUMN 0", () -> {
            b.reads("column 1;", 0);
            b.faults("column ^0;");
            b.faults("column ^2;");
            b.faults("column ^99;");
        });
        b.terms(4, "2 .. 20 of others: how many COUNTERS of the COLUMN below are worth one of it.", () -> {
            b.reads("column 1;column 2;", 0);
            b.reads("column 1;column 20;", 0);
            b.faults("column 1;column ^0;");
            b.faults("column 1;column ^1;");
            b.faults("column 1;column ^21;");
            b.faults("column 1;column 2;column ^1;");
            b.faults("column 1;column 2;column ^21;");
        });
        b.terms(4, "WORTH: 1 of COLUMN 0, else RATIO times WORTH of the one below.", () -> {
            ExchequerCloth x = Told.cloth("column 1;column 20;column 20;column 20;column 20;column 20;");
            int want = 1;
            for (int c = 0; c < 6; c++) {
                b.due("worth(" + c + ", 1)", x.worth(c, 1), want);
                want *= 20;
            }
        });
        b.terms(4, "ROWS 0, 1 .. (at most 4).", () -> {
            ExchequerCloth x = Told.cloth("column 1;row 5;row 6;row 7;row 8;");
            b.due("of(0, 0)", x.of(0, 0), 5);
            b.due("of(3, 0)", x.of(3, 0), 8);
            b.due("of(4, 0)", x.of(4, 0), -1);
        });
        b.terms(4, "A CELL: a ROW, a COLUMN: 0 .. 99 COUNTERS.", () -> {
            ExchequerCloth x = Told.cloth("column 1;column 2;row 0 99;");
            b.due("of(0, 0)", x.of(0, 0), 0);
            b.due("of(0, 1)", x.of(0, 1), 99);
            b.faults("column 1;column 2;row 0 ^100;");
        });
        b.terms(4, ": RATIO; COUNTERS of COLUMNS 0, 1 .. of a ROW (as many as there are COLUMNS at most, the others 0); "
            + "MOVES; SEEN.", () -> {
            ExchequerCloth x = Told.cloth("column 1;column 2;column 3;row 4;row 5 6;row 7 8 9;");
            b.spells(x, "column 1;column 2;column 3;row 4 0 0;row 5 6 0;row 7 8 9;");
            b.faults("column 1;column 2;column 3;row 4 5 6 ^7;");
            b.faults("column 1;row 4 ^5;");
            b.faults("column 1;row ^;");
            b.faults("column 1;row^;");
        });
        b.terms(4, "COUNTERS of COLUMNS 0, 1 .. of a ROW", () -> {
            // a text with fewer COUNTERS, told where another one had more
            ExchequerCloth x = Told.cloth("column 1;column 2;row 9 9;");
            b.due("a text with a FAULT", Told.text(x, "column 1;column 2;row 8 8;x"), -4 - 26);
            b.due("a text with fewer", Told.text(x, "column 1;column 2;row 7;"), 1);
            b.due("the others are 0", x.of(0, 1), 0);
            b.due("in the BEGINNING, too", x.at(0, 0, 1), 0);
        });
        b.terms(4, "A TEXT: { column N ; } { row N {N} ; } { put N N N ; | take N N N ; | carry N N ; | break N N ; | "
            + "shift N N N N ; } { seen N N N N ; }", () -> {
            String text = "column 1;column 10;row 20 1;row 0 0;put 0 0 5;take 0 0 4;carry 0 0;break 0 1;"
                + "shift 0 1 0 20;seen 5 1 0 20;";
            ExchequerCloth x = Told.cloth(text);
            b.spells(x, text);
            b.due("of(1, 0)", x.of(1, 0), 20);
            b.due("of(0, 0)", x.of(0, 0), 1);
            b.due("of(0, 1)", x.of(0, 1), 1);
        });
    }

    private void signs() {
        b.terms(4, "WORDS are small letters as far as they go on", () -> {
            for (String word : new String[] {"colum", "columns", "columnrow", "Column", "COLUMN", "coluMn", "c"}) {
                b.faults("^" + word + " 1;");
            }
            b.faults("column^N 1;");
            for (String word : new String[] {"row", "put", "take", "carry", "break", "shift", "seen"}) {
                b.faults(CLOTH + "^" + word + "s 0 0 0 0;");
                b.faults(CLOTH + "^" + word.substring(0, word.length() - 1) + " 0 0 0 0;");
                b.faults(CLOTH + "^" + word.substring(1) + " 0 0 0 0;");
                b.faults(CLOTH + "^" + word.toUpperCase(java.util.Locale.ROOT) + " 0 0 0 0;");
            }
        });
        b.terms(4, "N digits as far as they go on (one or two, 0s ahead, too).", () -> {
            b.reads("column 01;column 02;row 00 09;row 0 99;", 2);
            b.reads("column 1;row 5;put 00 00 09;seen 01 00 00 08;", 1);
            b.faults("column ^001;");
            b.faults("column 1;row ^000;");
            b.faults("column ^-1;");
            b.faults("column ^+1;");
            b.faults("column 1^.0;");
            b.faults("column 1^a;");
        });
        b.terms(4, "FAULT: the first byte that can't stand there", () -> {
            b.faults("^x y z;");
            b.faults("^;");
            b.faults("^1;");
            b.faults("column 1;^;");
            b.faults("column 1;^5;");
            b.faults("column 1^,;x");
            b.faults("column ^column 1;");
            b.faults("column ^;");
        });
        b.terms(4, "(of a WORD, N its first one", () -> {
            b.faults("column 1;^colum");
            b.faults("column 1;^rows 1;");
            b.faults("column 1;row 5;put 0 ^123 1;");
        });
        b.terms(4, "FAULT: the first byte that can't stand there", () -> {
            for (int sign = 0; sign < 256; sign++) {
                boolean blank = sign == 32 || sign == 10;
                String text = "column 1;" + (char) sign;
                b.due("text with byte " + sign, Told.text(new ExchequerCloth(), text), blank ? 0 : -4 - 9);
            }
        });
        b.terms(4, "N digits as far as they go on", () -> {
            for (int sign = 0; sign < 256; sign++) {
                boolean digit = sign >= '0' && sign <= '9';
                int fault = sign == 32 || sign == 10 ? 5 : 4;
                String text = "row " + (char) sign + ";";
                ExchequerCloth x = new ExchequerCloth();
                b.due("row of byte " + sign, Told.text(x, "column 1;" + text), digit ? 1 : -4 - 9 - fault);
            }
        });
    }

    private void blanks() {
        b.terms(4, "Blanks (32), line ends (10) where one likes", () -> {
            b.reads(" ", 0);
            b.reads("\n", 0);
            b.reads("\n \n", 0);
            b.reads(" column  1 ; \n row\n\n5 ;\nput 0\n0  1 ; seen 1 0 0 6 ; ", 1);
            b.faults("column^\t1;");
            b.faults("column 1;^\r\n");
            b.faults("column 1;^\0");
            b.faults("column 1;^" + (char) 160);
        });
        b.terms(4, "one at least between two WORDS", () -> {
            b.faults("^columncolumn 1;");
            b.faults("column 1;^rowrow 1;");
        });
        b.terms(4, "two N", () -> {
            ExchequerCloth x = Told.cloth("column 1;column 2;row 12;row 1 2;row 1\n2;");
            b.spells(x, "column 1;column 2;row 12 0;row 1 2;row 1 2;");
        });
        b.terms(4, "a WORD and N (else the second one can't stand there).", () -> {
            b.faults("column^1;");
            b.faults("column 1;row^1;");
            b.faults("column 1;row 1;put^0 0 1;");
            b.faults("column 1;row 1;seen^0 0 0 1;");
            b.faults("column 1;row 1^row 1;");
            b.faults("column 1;row 1;put 0 0 1^put 0 0 1;");
        });
        b.terms(4, "Blanks (32), line ends (10) where one likes", () -> b.reads("column 1;row 5;put 0 0 1;seen 1 0 0 6;", 1));
    }

    private void numbers() {
        b.terms(4, "also an N out of bounds", () -> {
            b.faults(MADE + "seen ^2 0 0 0;");
            b.faults(MADE + "seen 0 ^2 0 0;");
            b.faults(MADE + "seen 0 0 ^2 0;");
            b.faults(MADE + "seen ^99 99 99 99;");
            b.faults(CLOTH + "seen ^1 0 0 0;");
            b.reads(MADE + "seen 1 1 1 99;seen 0 0 0 0;", 2);
        });
        b.terms(4, "also an N out of bounds", () -> {
            b.faults("seen 0 ^0 0 0;");
            b.faults("column 1;seen 0 ^0 0 0;");
            b.faults("column 1;row 5;seen 0 0 ^1 0;");
        });
        b.terms(4, "of three digits or more", () -> {
            b.faults("column ^100;");
            b.faults("column ^001;");
            b.faults("column 1;row ^099;");
            b.faults("column 1;row 1;put ^000 0 1;");
            b.faults("column 1;row 1;put 0 ^000 1;");
            b.faults("column 1;row 1;put 0 0 ^001;");
            b.faults("column 1;row 1;seen ^000 0 0 1;");
            b.faults("column 1;row 1;seen 0 0 0 ^001;");
            b.faults("column ^4294967297;");
            b.faults("column ^" + "0".repeat(300) + "1;");
        });
        b.terms(4, "any N of one or two digits can stand in a MOVE", () -> {
            for (String move : new String[] {"put 99 99 99;", "take 99 99 99;", "carry 99 99;", "break 99 99;",
                "shift 99 99 99 99;", "put 00 00 00;"}) {
                b.faults(CLOTH + "^" + move);
            }
            b.faults(CLOTH + "put 99 99 99^");
            b.faults(CLOTH + "put 99 99 ^100;");
            b.faults(CLOTH + "carry 99 ^100;");
            b.faults(CLOTH + "shift 99 99 99 ^999;");
        });
    }

    private void tooMany() {
        b.terms(4, "a seventh column", () -> {
            b.reads(SIX, 0);
            b.faults(SIX + "^column 2;");
            b.faults(SIX + "^column 99;");
            b.faults(SIX + "^column");
            b.reads(SIX + "row 1 2 3 4 5 6;", 1);
            b.faults(SIX + "row 1 2 3 4 5 6 ^7;");
        });
        b.terms(4, "a fifth row", () -> {
            b.reads("column 1;row 1;row 1;row 1;row 1;", 4);
            b.faults("column 1;row 1;row 1;row 1;row 1;^row 1;");
            b.faults("column 1;row 1;row 1;row 1;row 1;^row");
        });
        b.terms(4, "a row without COLUMNS", () -> {
            b.faults("^row 1;");
            b.faults("^row ;");
            b.faults("^row");
            b.faults("  ^row");
        });
        b.terms(4, "a 13th seen at its WORD", () -> {
            String twelve = MADE + "seen 0 0 0 1;".repeat(12);
            b.reads(twelve, 2);
            b.faults(twelve + "^seen 0 0 0 1;");
            b.faults(twelve + "^seen 99 99 99 99;");
            b.faults(twelve + "^seen");
        });
        b.terms(4, "a 25th one, at its WORD", () -> {
            String full = CLOTH + "put 0 0 1;take 0 0 1;".repeat(12);
            b.reads(full, 2);
            b.reads(full + "seen 24 0 0 50;", 2);
            b.faults(full + "seen ^25 0 0 50;");
            b.faults(full + "^put 0 0 1;");
            b.faults(full + "^take 0 0 1;");
            b.faults(full + "^carry 0 0;");
            b.faults(full + "^break 0 1;");
            b.faults(full + "^shift 0 1 0 1;");
            b.faults(full + "^put 0 0 0;");
        });
    }

    private void movesThatCannotBe() {
        b.terms(4, "a MOVE that can't be", () -> {
            b.reads(CLOTH + "put 0 0 49;", 2);
            b.faults(CLOTH + "^put 0 0 50;");
            b.reads(CLOTH + "take 0 0 50;", 2);
            b.faults(CLOTH + "^take 0 0 51;");
            b.faults(CLOTH + "^carry 1 0;");
            b.faults(CLOTH + "^carry 0 1;");
            b.faults(CLOTH + "^break 0 0;");
            b.faults(CLOTH + "^shift 0 0 0 1;");
            b.faults(CLOTH + "^shift 0 1 1 1;");
            b.faults(CLOTH + "^put 2 0 1;");
            b.faults(CLOTH + "^put 0 2 1;");
            b.faults(CLOTH + "^put 0 0 0;");
        });
        b.terms(4, "a MOVE that can't be", () -> {
            b.faults("^put 0 0 1;");
            b.faults("column 1;^put 0 0 1;");
            b.faults("column 1;row 0;^take 0 0 1;");
            // a MOVE is looked at behind those ahead of it
            b.reads("column 1;row 0;put 0 0 5;take 0 0 5;", 1);
            b.faults("column 1;row 0;put 0 0 5;^take 0 0 6;");
        });
        b.terms(4, "if it stands there in whole, with its ;", () -> {
            b.faults(CLOTH + "put 9 9 9^");
            b.faults(CLOTH + "put 9 9 9 ^");
            b.faults(CLOTH + "put 9 9 9 ^9;");
            b.faults(CLOTH + "put 9 9^;");
            b.faults(CLOTH + "put 9 9 9 ^put 0 0 1;");
            b.faults(CLOTH + "carry 9 9 ^9;");
            b.faults(CLOTH + "break 0 0^");
            b.faults(CLOTH + "shift 0 0 0^;");
            String full = CLOTH + "put 0 0 1;take 0 0 1;".repeat(12);
            b.faults(full + "put 0 0 1^");
            b.faults(full + "put 0 0^;");
            b.faults(full + "put^");
        });
    }

    private void order() {
        b.terms(4, "what stands out of that order", () -> {
            b.faults("column 1;row 1;^column 2;");
            b.faults(MADE + "^column 2;");
            b.faults(MADE + "^row 1;");
            b.faults(MADE + "seen 0 0 0 1;^column 2;");
            b.faults(MADE + "seen 0 0 0 1;^row 1;");
            for (String move : new String[] {"put 0 0 1;", "take 0 0 1;", "carry 0 0;", "break 0 1;", "shift 0 1 0 1;"}) {
                b.faults(MADE + "seen 0 0 0 1;^" + move);
            }
        });
    }

    private void tooEarly() {
        b.terms(4, "the TEXT's length, if it ends too early).", () -> {
            for (String end : new String[] {"column^", "column ^", "column 1^", "column 1 ^"}) {
                b.faults(end);
            }
            for (String end : new String[] {"row^", "row ^", "row 1^", "row 1 ^", "row 1 1^"}) {
                b.faults("column 1;column 2;" + end);
            }
            for (String end : new String[] {"put^", "put ^", "put 0^", "put 0 0^", "put 0 0 ^", "put 0 0 1^", "take 0 0^",
                "carry^", "carry 0^", "carry 0 0^", "break 0 1^", "shift 0 1 0^", "shift 0 1 0 1^", "seen^", "seen 0^",
                "seen 0 0^", "seen 0 0 0^", "seen 0 0 0 0^", "seen 0 0 0 0 ^"}) {
                b.faults(CLOTH + end);
            }
        });
        b.terms(4, "the TEXT's length, if it ends too early).", () -> {
            // behind the 400th byte of a full tape
            for (String end : new String[] {"column^", "column 1^", "column 1;column 2;row^", "column 1;column 2;row 1^",
                "column 1;row 1;put 0 0 1^", "column 1;row 1;seen 0 0 0 1^", "column 1;column 2;row 1 ^"}) {
                b.faults(" ".repeat(401 - end.length()) + end);
            }
            b.reads(" ".repeat(385) + "column 1;row 1;", 1);
        });
    }
}
