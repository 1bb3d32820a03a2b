/** Promises 2 to 4 and 52: the tape, texts with and without a FAULT, and the text told back. */
public final class TextTest {
    private static final String LONG_COLUMNS =
        "column 1;column 20;column 20;column 20;column 20;column 20;";

    private final Check check = new Check();

    public static void main(String[] args) {
        TextTest test = new TextTest();
        test.tape();
        test.read();
        test.wordsAndNumbers();
        test.blanks();
        test.columnsAndRows();
        test.moves();
        test.sights();
        test.faultChangesNothing();
        test.readChangesAll();
        test.spelledAgain();
        test.longest();
        test.check.finish("TextTest");
    }

    private void reads(String text, int rows) {
        check.due("text " + text, Told.text(new ExchequerCloth(), text), rows);
    }

    private void faults(String text, int place) {
        check.due("text " + text, Told.text(new ExchequerCloth(), text), -4 - place);
    }

    /** The FAULT stands where the text has its sign ^, which is not told. */
    private void faults(String text) {
        faults(text.replace("^", ""), text.indexOf('^'));
    }

    private void tape() {
        ExchequerCloth x = new ExchequerCloth();
        for (int i = 1; i <= 20; i++) {
            check.due("feed " + i, x.feed(-1, 0, Integer.MIN_VALUE, 5, 6), 20 * i);
        }
        check.due("feed 21", x.feed(1, 2, 3, 4, 5), -1);
        check.due("count 5", x.count(5), 400);
        check.due("back of too many", x.back(401), -1);
        check.due("back of the most", x.back(Integer.MAX_VALUE), -1);
        check.due("back below 0", x.back(-1), -1);
        check.due("back of the least", x.back(Integer.MIN_VALUE), -1);
        check.due("back 0", x.back(0), 400);
        check.due("back 1", x.back(1), 399);
        check.due("feed beyond 400", x.feed(0, 0, 0, 0, 0), -1);
        check.due("back 19", x.back(19), 380);
        check.due("feed up to 400", x.feed(0, 0, 0, 0, 0), 400);
        check.due("text of a high byte", x.text(), -4);
        check.due("tape behind a fault", x.count(5), 0);
        check.due("back of an empty tape", x.back(1), -1);
        x.feed(0x636f6c75, 0x6d6e2031, 0x3b20200a, 0x20202020, 0x20202020);
        check.due("the highest byte of a comes first", x.text(), 0);
        check.due("columns of that text", x.count(0), 1);
        check.due("tape behind a text", x.count(5), 0);
    }

    private void read() {
        reads("", 0);
        reads(" \n\n ", 0);
        reads("column 1;", 0);
        reads("column 1;row 0;", 1);
        reads("column 1;column 2;row 1 2;row 3;row 99 99;row 0;", 4);
        reads("column 1;column 12;row 1 2;row 3;put 0 0 1;take 0 0 2;put 1 0 9;carry 1 0;break 1 1;"
            + "shift 1 0 0 12;seen 6 0 0 12;", 2);
        faults("column 1;row 5;put 0 0 1;^shift 0 1 0 1;");
        faults("column 1;row 5;put 0 0 1^");
    }

    private void wordsAndNumbers() {
        faults("^x");
        faults("^colum 1;");
        faults("^columns 1;");
        faults("^Column 1;");
        faults("^cOlumn 1;");
        faults("^colum");
        faults("^columnz 1;");
        for (String word : new String[] {"row", "put", "take", "carry", "break", "shift", "seen"}) {
            faults("column 1;row 5;^x" + word.substring(1) + " 0 0 0 1;");
            faults("column 1;row 5;^" + word.substring(0, word.length() - 1) + "x 0 0 0 1;");
        }
        faults("column^");
        faults("column ^");
        faults("column ^;");
        faults("column^1;");
        faults("column ^column 1;");
        faults("column 1^");
        faults("column 1 ^");
        faults("column 1^x;");
        faults("column 1 ^1;");
        faults("column ^-1;");
        faults("column ^001;");
        faults("column ^1000000000000000000000001;");
        faults("column 1;^;");
        faults("column 1;^1");
        faults("^1;");
        faults("column 1;column 2;row 1^,2;");
        reads("column 01;column 02;row 00 09;", 1);
        faults("column 1;row ^000;");
        faults("column 1;row 1^row 1;");
        faults("column 1;row^1;");
        faults("column 1;row 1;put^0 0 1;");
        faults("column 1;row 1;put 0 0^");
        faults("column 1;row 1;put 0 0^put");
    }

    private void blanks() {
        reads("\n column\n\n1 ; row   1\n; put 0\n0 1 ;seen 1 0 0 2; \n", 1);
        faults("column^\t1;");
        faults("column 1;^\r");
        faults("column 1;^\0");
        faults("column 1;^" + (char) 255);
        faults("column 1^" + (char) 160 + ";");
    }

    private void columnsAndRows() {
        faults("column ^0;");
        faults("column ^2;");
        faults("column 1;column ^1;");
        faults("column 1;column ^0;");
        faults("column 1;column ^21;");
        reads("column 1;column 20;column 2;", 0);
        reads(LONG_COLUMNS, 0);
        faults(LONG_COLUMNS + "^column 2;");
        faults(LONG_COLUMNS + "^column");
        faults("^row 1;");
        faults("^row");
        faults("column 1;row ^;");
        faults("column 1;row 1 ^2;");
        faults("column 1;column 2;row 1 2 ^3;");
        faults("column 1;row ^100;");
        faults("column 1;row 1;row 1;row 1;row 1;^row 1;");
        faults("column 1;row 1;^column 2;");
        faults("column 1;row 1;put 0 0 1;^row 1;");
        faults("column 1;row 1;put 0 0 1;^column 2;");
        faults("column 1;row 1;seen 0 0 0 1;^put 0 0 1;");
        faults("column 1;row 1;seen 0 0 0 1;^row 1;");
        faults("column 1;row 1;seen 0 0 0 1;^column 2;");
    }

    private void moves() {
        String cloth = "column 1;column 10;row 50 50;row 0 99;";
        for (String can : new String[] {"put 0 0 49;", "put 0 1 1;", "take 0 0 50;", "carry 0 0;", "break 0 1;",
            "shift 0 1 0 50;", "shift 01 00 01 49;"}) {
            reads(cloth + can, 2);
        }
        for (String cannot : new String[] {"put 0 0 0;", "put 0 0 50;", "put 2 0 1;", "put 0 2 1;", "put 99 99 99;",
            "take 0 0 0;", "take 0 0 51;", "take 1 0 1;", "carry 0 1;", "carry 1 0;", "carry 2 0;", "break 0 0;",
            "break 0 2;", "shift 0 1 1 1;", "shift 0 0 0 1;", "shift 0 1 0 51;", "shift 0 1 0 0;", "shift 0 2 0 1;",
            "shift 2 0 0 1;", "put 0 0\n50 ;"}) {
            faults(cloth + "^" + cannot);
        }
        faults(cloth + "put 0 0 0^");
        faults(cloth + "put 0 0 0 ^0;");
        faults(cloth + "put 0 0 ^100;");
        faults(cloth + "put ^000 0 1;");
        faults(cloth + "put 9 9^;");
        faults(cloth + "carry 0 0 ^1;");
        faults(cloth + "shift 0 1 0^;");
        faults("^put 0 0 1;");
        faults("column 1;^put 0 0 1;");
        faults("put 0 0^;");
        String full = cloth + "put 0 0 1;take 0 0 1;".repeat(12);
        reads(full, 2);
        reads(full + "seen 24 0 0 50;", 2);
        faults(full + "^put 0 0 1;");
        faults(full + "^put 0 0 0;");
        faults(full + "put 0 0^;");
        faults(full + "put 0 0 1^");
        faults(full + "^puts 0 0 1;");
    }

    private void sights() {
        String cloth = "column 1;column 10;row 50 50;row 0 99;put 0 0 1;";
        reads(cloth + "seen 0 0 0 99;seen 1 1 1 0;", 2);
        faults(cloth + "seen ^2 0 0 0;");
        faults(cloth + "seen 0 ^2 0 0;");
        faults(cloth + "seen 0 0 ^2 0;");
        faults(cloth + "seen 0 0 0 ^100;");
        faults(cloth + "seen 0 0 0^;");
        faults(cloth + "seen 0 0 0 0 ^0;");
        faults("column 1;seen 0 ^0 0 0;");
        faults("seen ^1 0 0 0;");
        String twelve = cloth + "seen 0 0 0 1;".repeat(12);
        reads(twelve, 2);
        faults(twelve + "^seen 0 0 0 1;");
        faults(twelve + "^seen");
    }

    private void faultChangesNothing() {
        ExchequerCloth x = Told.cloth("column 1;row 7;put 0 0 1;seen 1 0 0 8;");
        x.put(false, 0, 0, 2);
        check.due("a fault late in a text", Told.text(x, "column 1;column 5;row 1 2;put 0 0 1;take 0 0 9;"), -40);
        check.due("columns stay", x.count(0), 1);
        check.due("cells stay", x.of(0, 0), 10);
        check.due("the log stays", x.count(2), 2);
        check.due("what was seen stays", x.count(3), 1);
        check.due("acts stay", x.count(4), 1);
        check.due("and are taken back", x.undo(), 0);
        check.due("cells then", x.of(0, 0), 8);
    }

    private void readChangesAll() {
        ExchequerCloth x = Told.cloth("column 1;column 3;column 4;row 7 7 7;row 8 8 8;put 0 0 1;seen 1 0 0 8;");
        x.put(false, 0, 0, 2);
        check.due("another text", Told.text(x, "column 1;column 5;row 2;"), 1);
        check.due("columns", x.count(0), 2);
        check.due("rows", x.count(1), 1);
        check.due("moves", x.count(2), 0);
        check.due("seen", x.count(3), 0);
        check.due("acts are forgotten", x.count(4), 0);
        check.due("no act to take back", x.undo(), -1);
        check.due("a column that was not told is empty", x.of(0, 1), 0);
        check.due("ratio", x.worth(1, 0), 5);
        check.due("a new row is empty", x.row(), 1);
        check.due("its sum", x.sum(1), 0);
        check.due("an empty text", x.text(), 0);
        check.due("takes all away", x.count(0), 0);
    }

    private void spelledAgain() {
        String text = "column 1;column 12;row 1 2;row 30 0;put 0 0 1;take 0 0 2;put 1 0 9;carry 1 0;break 1 1;"
            + "shift 1 0 0 12;seen 6 0 0 12;seen 0 1 1 99;";
        ExchequerCloth x = Told.cloth(text);
        check.holds("spelled as told", Told.spelled(x).equals(text));
        check.due("length", x.spell(-1), text.length());
        check.due("behind the last", x.spell(text.length()), -2);
        check.due("far behind", x.spell(Integer.MAX_VALUE), -2);
        check.due("below NONE", x.spell(-2), -1);
        check.due("far below", x.spell(Integer.MIN_VALUE), -1);
        x.slide(0, 1, false);
        check.holds("a slide is not written", Told.spelled(x).equals(text));
        x.unsee(0);
        check.due("without one seen", x.spell(-1), text.length() - "seen 6 0 0 12;".length());
        x.start();
        check.holds("anew", Told.spelled(x).equals("column 1;column 12;row 13 1;row 27 0;"));
        x.column(7);
        check.holds("with a column", Told.spelled(x).equals("column 1;column 12;column 7;row 13 1 0;row 27 0 0;"));
    }

    private void longest() {
        ExchequerCloth x = Told.cloth(LONG_COLUMNS + "row 99 99 99 99 99 50;".repeat(4));
        for (int i = 0; i < 12; i++) {
            check.due("shift", x.shift(0, 1, 5, 49), 99);
            check.due("shift back", x.shift(1, 0, 5, 49), 50);
        }
        for (int i = 0; i < 12; i++) {
            check.due("see", x.see(24, 3, 5, 99), i + 1);
        }
        check.due("the longest text", x.spell(-1), 59 + 88 + 24 * 15 + 12 * 15);
        check.due("its last byte", x.spell(686), ';');
        check.due("behind it", x.spell(687), -2);
    }
}
