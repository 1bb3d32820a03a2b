/** Promises 1 to 4: a new object, the tape, a text as a whole. */
final class ToldBoundaries {
    /** "column 1;" and eleven blanks. */
    private static final int[] ONE_COLUMN = {0x636f6c75, 0x6d6e2031, 0x3b202020, 0x20202020, 0x20202020};
    private static final String SMALL = "column 1;column 5;row 7 1;row 3;put 0 0 1;seen 1 0 0 8;";

    private final Boundary b;

    ToldBoundaries(Boundary boundary) {
        b = boundary;
    }

    void run() {
        newObject();
        feed();
        back();
        text();
        acts();
    }

    private static void feed(ExchequerCloth x, int times) {
        for (int i = 0; i < times; i++) {
            x.feed(0x20202020, 0x20202020, 0x20202020, 0x20202020, 0x20202020);
        }
    }

    private void newObject() {
        b.promise(1, "No COLUMNS", () -> {
            ExchequerCloth x = new ExchequerCloth();
            b.due("count(0)", x.count(0), 0);
            b.due("worth(0, 0)", x.worth(0, 0), -1);
            b.due("the first column is number 0", x.column(1), 0);
        });
        b.promise(1, "no ROWS", () -> {
            ExchequerCloth x = new ExchequerCloth();
            b.due("count(1)", x.count(1), 0);
            b.due("of(0, 0)", x.of(0, 0), -1);
            b.due("sum(0)", x.sum(0), -2);
            b.due("sum of all", x.sum(-1), 0);
        });
        b.promise(1, "no ROWS", () -> {
            ExchequerCloth x = new ExchequerCloth();
            for (int what = 2; what <= 5; what++) {
                b.due("count(" + what + "), nothing was made, seen, done or fed", x.count(what), 0);
            }
            b.due("spell(-1)", x.spell(-1), 0);
        });
    }

    private void feed() {
        b.promise(2, "Twenty bytes", () -> {
            ExchequerCloth x = new ExchequerCloth();
            b.due("the first feed", x.feed(0, 0, 0, 0, 0), 20);
            b.due("a second one", x.feed(-1, -1, -1, -1, -1), 40);
        });
        b.promise(2, "the highest of a first, come behind the tape: how many it has.", () -> {
            ExchequerCloth x = new ExchequerCloth();
            b.due("feed", x.feed(0x0a0a2020, 0x2020636f, 0x6c756d6e, 0x2031203b, 0x636f6c75), 20);
            b.due("feed", x.feed(0x6d6e2031, 0x3920203b, 0x726f7720, 0x37203820, 0x3b202020), 40);
            b.due("text", x.text(), 1);
            b.due("worth(1, 0)", x.worth(1, 0), 19);
            b.due("of(0, 0)", x.of(0, 0), 7);
            b.due("of(0, 1)", x.of(0, 1), 8);
        });
        b.promise(2, "the highest of a first", () -> {
            for (int place = 0; place < 20; place++) {
                int[] words = {0x20202020, 0x20202020, 0x20202020, 0x20202020, 0x20202020};
                words[place / 4] ^= (0x20 ^ 0xff) << (24 - 8 * (place % 4));
                ExchequerCloth x = new ExchequerCloth();
                x.feed(words[0], words[1], words[2], words[3], words[4]);
                b.due("the byte 255 at " + place + " is the FAULT", x.text(), -4 - place);
            }
        });
        b.promise(2, "NONE, and nothing comes, if it would have more than 400.", () -> {
            ExchequerCloth x = new ExchequerCloth();
            feed(x, 19);
            b.due("up to 400", x.feed(0x20202020, 0x20202020, 0x20202020, 0x20202020, 0x20202020), 400);
            b.due("beyond 400", x.feed(-1, -1, -1, -1, -1), -1);
            b.due("count(5)", x.count(5), 400);
            b.due("nothing came: text", x.text(), 0);
        });
        b.promise(2, "if it would have more than 400", () -> {
            ExchequerCloth x = new ExchequerCloth();
            feed(x, 20);
            x.back(19);
            b.due("381 and 20", x.feed(-1, -1, -1, -1, -1), -1);
            b.due("count(5)", x.count(5), 381);
            x.back(1);
            b.due("380 and 20", x.feed(-1, -1, -1, -1, -1), 400);
            b.due("they came behind 380", x.text(), -4 - 380);
        });
    }

    private void back() {
        b.promise(3, "The last n bytes of the tape go: how many it has.", () -> {
            ExchequerCloth x = new ExchequerCloth();
            x.feed(ONE_COLUMN[0], ONE_COLUMN[1], ONE_COLUMN[2], -1, -1);
            b.due("back(7), a byte too many is left", x.back(7), 13);
            b.due("back(1)", x.back(1), 12);
            b.due("text", x.text(), 0);
            b.due("count(0)", x.count(0), 1);
        });
        b.promise(3, "The last n bytes of the tape go", () -> {
            ExchequerCloth x = new ExchequerCloth();
            feed(x, 20);
            b.due("back(0)", x.back(0), 400);
            b.due("back(400)", x.back(400), 0);
            b.due("back(0) of an empty tape", x.back(0), 0);
        });
        b.promise(3, "NONE, and nothing goes, if it has not so many", () -> {
            ExchequerCloth x = new ExchequerCloth();
            b.due("back(1) of an empty tape", x.back(1), -1);
            feed(x, 1);
            b.due("back(21)", x.back(21), -1);
            b.due("count(5)", x.count(5), 20);
            b.due("back(MAX)", x.back(Boundary.MOST), -1);
            b.due("back(20)", x.back(20), 0);
        });
        b.promise(3, "or n is below 0", () -> {
            ExchequerCloth x = new ExchequerCloth();
            feed(x, 1);
            b.due("back(-1)", x.back(-1), -1);
            b.due("back(MIN)", x.back(Boundary.LEAST), -1);
            b.due("count(5)", x.count(5), 20);
        });
    }

    private void text() {
        b.promise(4, "The tape (empty then", () -> {
            ExchequerCloth x = Told.cloth(SMALL);
            b.due("count(5)", x.count(5), 0);
            b.due("an empty tape is a text, too", x.text(), 0);
            b.due("that has no columns", x.count(0), 0);
        });
        b.promise(4, "behind a FAULT, too", () -> {
            ExchequerCloth x = new ExchequerCloth();
            b.due("text", Told.text(x, "column 1;row 1;x"), -4 - 15);
            b.due("count(5)", x.count(5), 0);
            b.due("a right text behind it", Told.text(x, "column 1;row 1;"), 1);
        });
        b.promise(4, "is the TEXT, all anew: how many ROWS", () -> {
            b.reads("", 0);
            b.reads("column 1;", 0);
            b.reads("column 1;row 0;", 1);
            b.reads("column 1;row 0;row 1;row 2;row 3;", 4);
        });
        b.promise(4, "all anew", () -> {
            ExchequerCloth x = Told.cloth("column 1;column 2;column 3;row 9 9 9;row 9 9 9;put 0 0 1;seen 1 0 0 8;");
            b.due("text", Told.text(x, "column 1;column 7;row 2;"), 1);
            b.spells(x, "column 1;column 7;row 2 0;");
            b.due("row() is empty", x.row() + x.sum(1), 1);
            b.due("column(2)", x.column(2), 2);
            b.due("all its cells are empty", x.of(0, 2), 0);
        });
        b.promise(4, "-4 less its FAULT", () -> {
            b.due("FAULT 0", Told.text(new ExchequerCloth(), "x"), -4);
            b.due("FAULT 1", Told.text(new ExchequerCloth(), " x"), -5);
            b.due("FAULT 399", Told.text(new ExchequerCloth(), " ".repeat(399) + "x"), -403);
            b.due("FAULT 400, the length", Told.text(new ExchequerCloth(), " ".repeat(394) + "column"), -404);
        });
        b.promise(4, "and all else stays", () -> {
            ExchequerCloth twin = Told.cloth(SMALL);
            ExchequerCloth x = Told.cloth(SMALL);
            twin.slide(0, 0, true);
            x.slide(0, 0, true);
            b.due("text", Told.text(x, "column 1;column 9;row 5 5;put 0 0 1;seen 1 0 0 6;row 1;"), -4 - 49);
            b.same("behind the FAULT", State.of(x), State.of(twin));
            b.due("undo", x.undo(), 0);
            twin.undo();
            b.same("undone behind the FAULT", State.of(x), State.of(twin));
        });
    }

    private void acts() {
        b.terms(4, "(text() forgets them).", () -> {
            ExchequerCloth x = Told.cloth(SMALL);
            x.put(false, 0, 0, 1);
            Told.text(x, SMALL);
            b.due("count(4)", x.count(4), 0);
            b.due("undo", x.undo(), -1);
            x.put(false, 0, 0, 1);
            b.due("an act behind it can be undone", x.undo(), 0);
        });
        b.terms(23, "ACTS, of which the latest 12 can be undone", () -> {
            ExchequerCloth x = Told.cloth("column 1;row 0;");
            for (int i = 0; i < 13; i++) {
                x.put(false, 0, 0, 1);
                b.due("count(4) behind act " + i, x.count(4), Math.min(12, i + 1));
            }
            for (int left = 11; left >= 0; left--) {
                b.due("undo", x.undo(), left);
                b.due("of(0, 0)", x.of(0, 0), left + 1);
            }
            b.due("the 13th undo", x.undo(), -1);
            b.due("the first act stands", x.of(0, 0), 1);
        });
    }
}
