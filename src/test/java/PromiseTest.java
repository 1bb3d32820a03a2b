/** Promises 1 and 5 to 54 one by one: ordinary calls, the edges that the document names, wrong calls. */
public final class PromiseTest {
    private static final int LEAST = Integer.MIN_VALUE;
    private static final int MOST = Integer.MAX_VALUE;
    private static final String MONEY = "column 1;column 12;column 20;";

    private final Check check = new Check();

    public static void main(String[] args) {
        PromiseTest test = new PromiseTest();
        test.newObject();
        test.columnsAndRows();
        test.dropped();
        test.moves();
        test.fullLog();
        test.struck();
        test.slid();
        test.madePlain();
        test.joined();
        test.doubledAndHalved();
        test.paid();
        test.clearedAndStarted();
        test.sights();
        test.undone();
        test.askedOfCloth();
        test.canBe();
        test.comparedAndApart();
        test.sumsTaken();
        test.payings();
        test.logTold();
        test.sightsTold();
        test.slidesThatExplain();
        test.slidesAcrossBounds();
        test.leftOutMoves();
        test.whereToLook();
        test.reports();
        test.counts();
        test.check.finish("PromiseTest");
    }

    private void due(String what, long got, long want) {
        check.due(what, got, want);
    }

    private void spells(String what, ExchequerCloth x, String want) {
        String got = Told.spelled(x);
        check.holds(what + ": " + got, got.equals(want));
    }

    private void newObject() {
        ExchequerCloth x = new ExchequerCloth();
        due("P1 columns", x.count(0), 0);
        due("P1 rows", x.count(1), 0);
        due("P1 spelled", x.spell(-1), 0);
        due("P1 undo", x.undo(), -1);
        due("P1 NONE", ExchequerCloth.NONE, -1);
    }

    private void columnsAndRows() {
        ExchequerCloth x = new ExchequerCloth();
        due("P6 row without columns", x.row(), -1);
        due("P5 column 0 of 2", x.column(2), -1);
        due("P5 column 0 of 0", x.column(0), -1);
        due("P5 column 0", x.column(1), 0);
        for (int wrong : new int[] {1, 0, -1, 21, LEAST, MOST}) {
            due("P5 column of " + wrong, x.column(wrong), -1);
        }
        due("P5 column of 2", x.column(2), 1);
        due("P6 row", x.row(), 0);
        x.put(false, 0, 1, 4);
        x.see(1, 0, 1, 4);
        due("P5 column of 20", x.column(20), 2);
        due("P5 anew: log", x.count(2), 0);
        due("P5 anew: seen", x.count(3), 0);
        due("P5 anew: beginning", x.at(0, 0, 1), 4);
        due("P5 empty", x.of(0, 2), 0);
        x.column(3);
        x.column(4);
        due("P5 the sixth", x.column(5), 5);
        due("P5 a seventh", x.column(5), -1);
        due("P5 count", x.count(0), 6);
        x.put(false, 0, 5, 9);
        due("P6 row 1", x.row(), 1);
        due("P6 empty", x.counters(1), 0);
        due("P6 anew", x.count(2), 0);
        due("P6 anew: beginning", x.at(0, 0, 5), 9);
        x.row();
        due("P6 row 3", x.row(), 3);
        due("P6 a fifth", x.row(), -1);
        due("P6 count", x.count(1), 4);
    }

    private void dropped() {
        ExchequerCloth x = Told.cloth(MONEY + "row 1;row 2 1;row 3;put 2 0 5;seen 1 2 0 8;");
        due("P7 no such row", x.drop(3), -1);
        due("P7 below 0", x.drop(-1), -1);
        due("P7 far", x.drop(LEAST), -1);
        due("P7 nothing happened", x.count(4), 0);
        due("P7 drop", x.drop(1), 14);
        spells("P7 the others", x, MONEY + "row 1 0 0;row 8 0 0;");
        due("P7 drop of the last", x.drop(1), 8);
        due("P7 drop of the only", x.drop(0), 1);
        due("P7 none left", x.drop(0), -1);
        due("P7 a row behind that", x.row(), 0);
        due("P7 is empty", x.sum(0), 0);
    }

    private void moves() {
        ExchequerCloth x = Told.cloth(MONEY + "row 10 5;row 99 0 99;");
        due("P8 put", x.put(false, 0, 0, 89), 99);
        due("P8 beyond 99", x.put(false, 0, 0, 1), -1);
        due("P8 take", x.put(true, 0, 0, 99), 0);
        due("P8 below 0", x.put(true, 0, 0, 1), -1);
        for (int k : new int[] {0, -1, 100, LEAST, MOST}) {
            due("P8 put of " + k, x.put(false, 0, 2, k), -1);
            due("P8 take of " + k, x.put(true, 1, 0, k), -1);
            due("P10 shift of " + k, x.shift(1, 0, 0, k), -1);
        }
        for (int wrong : new int[] {2, -1, LEAST, MOST}) {
            due("P8 row " + wrong, x.put(false, wrong, 0, 1), -1);
            due("P8 column " + wrong, x.put(false, 0, wrong == 2 ? 3 : wrong, 1), -1);
            due("P9 row " + wrong, x.carry(false, wrong, 0), -1);
            due("P9 column " + wrong, x.carry(true, 1, wrong == 2 ? 3 : wrong), -1);
            due("P10 row " + wrong, x.shift(wrong, 0, 0, 1), -1);
            due("P10 other row " + wrong, x.shift(1, wrong, 0, 1), -1);
            due("P10 column " + wrong, x.shift(1, 0, wrong == 2 ? 3 : wrong, 1), -1);
        }
        due("P8 only two moves", x.count(2), 2);
        due("P9 carry", x.carry(false, 1, 0), 87);
        due("P9 came", x.of(1, 1), 1);
        due("P9 too few", x.carry(false, 0, 1), -1);
        due("P9 no higher column", x.carry(false, 1, 2), -1);
        due("P9 break", x.carry(true, 0, 1), 4);
        due("P9 came down", x.of(0, 0), 12);
        due("P9 no lower column", x.carry(true, 0, 0), -1);
        due("P9 nothing to break", x.carry(true, 0, 2), -1);
        due("P9 break of pounds", x.carry(true, 1, 2), 98);
        due("P9 came down to", x.of(1, 1), 21);
        due("P10 shift", x.shift(1, 0, 2, 98), 98);
        due("P10 gone", x.of(1, 2), 0);
        due("P10 to itself", x.shift(1, 1, 0, 1), -1);
        due("P10 too many", x.shift(1, 0, 1, 22), -1);
        due("P10 beyond 99", x.shift(1, 0, 0, 88), -1);
        due("P10 up to 99", x.shift(1, 0, 0, 87), 99);
        due("P9 break beyond 99", x.carry(true, 0, 1), -1);
        ExchequerCloth y = Told.cloth("column 1;column 2;row 99 99;");
        due("P9 carry beyond 99", y.carry(false, 0, 0), -1);
    }

    private void fullLog() {
        ExchequerCloth x = Told.cloth("column 1;column 2;row 4 4;row 1;");
        for (int i = 0; i < 24; i++) {
            due("put " + i, x.put(false, 0, 0, 1), 5 + i);
        }
        due("P8 log is full", x.put(false, 0, 0, 1), -1);
        due("P9 log is full", x.carry(false, 0, 0), -1);
        due("P10 log is full", x.shift(0, 1, 0, 1), -1);
        due("P30 is asked as if it were not", x.can(0, 0, 0, 0, 1), 1);
        due("P12 a slide is not written", x.slide(0, 0, true), 1);
        due("P20 seen at the end", x.see(24, 0, 0, 27), 1);
        due("P11 strike", x.strike(), 23);
        due("P8 again", x.put(false, 0, 0, 1), 27);
        due("P41 at the end", x.at(24, 0, 0), 28);
    }

    private void struck() {
        ExchequerCloth x = Told.cloth(MONEY + "row 10 5;row 50;seen 0 0 0 10;");
        due("P11 no moves", x.strike(), -1);
        x.put(false, 0, 0, 5);
        x.see(1, 0, 0, 15);
        x.put(true, 1, 0, 7);
        x.see(2, 1, 0, 9);
        x.carry(false, 1, 0);
        x.carry(true, 0, 1);
        x.shift(1, 0, 0, 3);
        x.see(5, 0, 0, 1);
        x.see(4, 0, 0, 1);
        due("P11 strike of a shift", x.strike(), 4);
        due("P11 shift unmade", x.of(1, 0), 31);
        due("P11 seen behind it is gone", x.count(3), 4);
        due("P11 the others stay", x.seen(3, 0), 4);
        due("P11 strike of a break", x.strike(), 3);
        due("P11 break unmade", x.of(0, 0), 15);
        due("P11 and above", x.of(0, 1), 5);
        due("P11 strike of a carry", x.strike(), 2);
        due("P11 carry unmade", x.of(1, 0), 43);
        due("P11 and above", x.of(1, 1), 0);
        due("P11 strike of a take", x.strike(), 1);
        due("P11 take unmade", x.of(1, 0), 50);
        due("P11 strike of a put", x.strike(), 0);
        due("P11 put unmade", x.of(0, 0), 10);
        due("P11 seen ahead of all moves stays", x.count(3), 1);
        ExchequerCloth y = Told.cloth("column 1;column 2;row 0 5;put 0 0 1;");
        y.slide(0, 0, true);
        due("P11 can't be unmade", y.strike(), -2);
        due("P11 nothing happens", y.count(2), 1);
        due("P11 no act", y.count(4), 1);
        ExchequerCloth z = Told.cloth("column 1;column 2;row 99 5;take 0 0 1;");
        z.slide(0, 1, false);
        due("P11 beyond 99", z.strike(), -2);
    }

    private void slid() {
        ExchequerCloth x = Told.cloth(MONEY + "row 1 99 2;");
        due("P12 down", x.slide(0, 2, false), 0);
        due("P12 up beyond 99", x.slide(0, 0, true), 0);
        due("P12 above the highest", x.slide(0, 2, true), 0);
        due("P12 below the lowest", x.slide(0, 0, false), 0);
        due("P12 up", x.slide(0, 1, true), 228);
        due("P12 pence up", x.slide(0, 0, true), 11);
        due("P12 none there", x.slide(0, 0, true), 0);
        due("P12 shilling down", x.slide(0, 1, false), -11);
        due("P12 pound down", x.slide(0, 2, false), -228);
        for (int wrong : new int[] {-1, 3, LEAST, MOST}) {
            due("P12 row " + wrong, x.slide(wrong, 0, true), 0);
            due("P12 column " + wrong, x.slide(0, wrong, true), 0);
            due("P12 column down " + wrong, x.slide(0, wrong, false), 0);
        }
        due("P12 not in the log", x.count(2), 0);
        due("P12 four acts", x.count(4), 4);
        due("P12 the beginning stays", x.at(0, 0, 1), 99);
    }

    private void madePlain() {
        ExchequerCloth x = Told.cloth(MONEY + "row 30 25 1;row 11 19 99;row 12 19 99;row;".replace("row;", "row 0;"));
        x.put(false, 0, 0, 1);
        x.see(0, 0, 0, 0);
        due("P13 plain", x.plain(0), 57 - (7 + 7 + 2));
        spells("P13 lies so", x, MONEY + "row 7 7 2;row 11 19 99;row 12 19 99;row 0 0 0;");
        due("P13 it is so", x.plain(0), -1);
        due("P13 full but plain", x.plain(1), -1);
        due("P13 beyond 99", x.plain(2), -1);
        due("P13 empty is plain", x.plain(3), -1);
        due("P13 no such row", x.plain(4), -1);
        due("P13 below 0", x.plain(-1), -1);
        due("P13 one act for it", x.count(4), 3);
        ExchequerCloth most = Told.cloth(MONEY + "row 12 19 98;");
        due("P13 up to 99", most.plain(0), 30);
        due("P13 in the highest column", most.of(0, 2), 99);
    }

    private void joined() {
        ExchequerCloth x = Told.cloth(MONEY + "row 50 1;row 49 2 3;row 51;row 0;put 3 0 1;take 3 0 1;");
        for (int wrong : new int[] {4, -1, LEAST, MOST}) {
            due("P14 row " + wrong, x.join(wrong, 0), -1);
            due("P14 other " + wrong, x.join(0, wrong), -1);
        }
        due("P14 to itself", x.join(0, 0), -1);
        due("P14 beyond 99", x.join(0, 2), -1);
        due("P14 the first is empty", x.join(3, 0), -1);
        due("P14 no act", x.count(4), 0);
        due("P14 join", x.join(0, 1), 99 + 36 + 720);
        spells("P14 lies so, anew", x, MONEY + "row 0 0 0;row 99 3 3;row 51 0 0;row 0 0 0;");
        due("P14 to an empty one", x.join(2, 3), 51);
        ExchequerCloth six = Told.cloth("column 1;column 2;column 2;column 2;column 2;column 2;row 1;row 2;row 3;row 4 1 1 1 1 1;");
        due("P14 of the last row", six.join(3, 2), 3 + 4 + 62);
        due("P14 and back", six.join(2, 3), 69);
    }

    private void doubledAndHalved() {
        ExchequerCloth x = Told.cloth(MONEY + "row 49 1;row 50;row 0;row 0 0 3;put 2 0 1;take 2 0 1;");
        due("P15 doubled", x.doubled(0), 98 + 24);
        due("P15 anew", x.count(2), 0);
        due("P15 cells", x.of(0, 1), 2);
        due("P15 beyond 99", x.doubled(1), -1);
        due("P15 empty", x.doubled(2), -1);
        due("P15 no such row", x.doubled(4), -1);
        due("P15 below 0", x.doubled(-1), -1);
        due("P16 halve", x.halve(3), 0);
        due("P16 shillings", x.of(3, 1), 10);
        due("P16 pounds", x.of(3, 2), 1);
        due("P16 halve of 50", x.halve(1), 0);
        due("P16 halve of 25", x.halve(1), 1);
        due("P16 pence of 12", x.of(1, 0), 0);
        due("P16 shillings of 12", x.of(1, 1), 1);
        due("P16 empty", x.halve(2), -1);
        due("P16 no such row", x.halve(4), -1);
        due("P16 below 0", x.halve(-1), -1);
        ExchequerCloth y = Told.cloth("column 1;column 2;column 2;row 1;row 99 99 99;put 0 0 1;take 0 0 1;");
        due("P16 halve of 1", y.halve(0), 1);
        due("P16 is empty then", y.counters(0), 0);
        due("P16 anew", y.count(2), 0);
        due("P16 halve of the fullest", y.halve(1), 1);
        due("P16 its sum", y.sum(1), 346);
        due("P16 its highest", y.of(1, 2), 86);
    }

    private void paid() {
        ExchequerCloth x = Told.cloth(MONEY + "row 0 5;row 30 2;put 1 0 1;take 1 0 1;");
        for (int wrong : new int[] {2, -1, LEAST, MOST}) {
            due("P17 row " + wrong, x.pay(wrong, 0, 1), -1);
            due("P17 other " + wrong, x.pay(0, wrong, 1), -1);
        }
        due("P17 to itself", x.pay(0, 0, 1), -1);
        due("P17 sum 0", x.pay(0, 1, 0), -1);
        due("P17 sum below 0", x.pay(0, 1, LEAST), -1);
        due("P17 wrong rows ahead of what can't be", x.pay(2, 1, MOST), -1);
        due("P17 more than there is", x.pay(0, 1, 61), -2);
        due("P17 no act", x.count(4), 0);
        due("P17 pay with change", x.pay(0, 1, 7), 6);
        spells("P17 lies so, anew", x, MONEY + "row 5 4 0;row 25 3 0;");
        due("P17 pay all", x.pay(1, 0, 61), 28);
        due("P17 empty then", x.counters(1), 0);
    }

    private void clearedAndStarted() {
        ExchequerCloth x = Told.cloth(MONEY + "row 1 2 3;row 0;put 1 0 1;take 1 0 1;");
        due("P18 no such row", x.clear(2), -1);
        due("P18 below 0", x.clear(-1), -1);
        due("P18 empty", x.clear(1), -1);
        due("P18 clear", x.clear(0), 745);
        due("P18 anew", x.count(2), 0);
        due("P18 empty then", x.counters(0), 0);
        due("P18 again", x.clear(0), -1);
        due("P19 nothing to forget", x.start(), -1);
        x.put(false, 0, 0, 5);
        x.put(false, 0, 0, 5);
        due("P19 moves", x.start(), 2);
        due("P19 beginning", x.at(0, 0, 0), 10);
        due("P19 nothing left", x.start(), -1);
        x.see(0, 0, 0, 5);
        due("P19 seen alone", x.start(), 0);
        due("P19 seen is gone", x.count(3), 0);
        x.slide(0, 0, true);
        due("P19 a slide alone", x.start(), 0);
        due("P19 by the log then", x.differs(), 0);
        x.slide(0, 0, true);
        x.slide(0, 1, false);
        due("P19 a slide and back", x.start(), -1);
    }

    private void sights() {
        ExchequerCloth x = Told.cloth(MONEY + "row 1 2 3;row 0;put 1 0 1;take 1 0 1;");
        for (int wrong : new int[] {3, -1, LEAST, MOST}) {
            due("P20 t " + wrong, x.see(wrong, 0, 0, 0), -1);
            due("P20 row " + wrong, x.see(0, wrong, 0, 0), -1);
            due("P20 column " + wrong, x.see(0, 0, wrong, 0), -1);
        }
        for (int n : new int[] {-1, 100, LEAST, MOST}) {
            due("P20 n " + n, x.see(0, 0, 0, n), -1);
        }
        due("P22 none seen", x.sieve(), -1);
        due("P21 none seen", x.unsee(0), -1);
        due("P20 see", x.see(0, 0, 0, 1), 1);
        due("P20 see 0", x.see(1, 1, 0, 0), 2);
        due("P20 see 99", x.see(2, 1, 2, 99), 3);
        due("P20 see", x.see(1, 1, 0, 1), 4);
        due("P45 wrong", x.wrong(), 1);
        due("P21 no such", x.unsee(4), -1);
        due("P21 below 0", x.unsee(-1), -1);
        due("P21 far", x.unsee(LEAST), -1);
        due("P22 sieve", x.sieve(), 2);
        due("P22 what is right stays", x.seen(1, 3), 1);
        due("P22 in its order", x.seen(0, 0), 0);
        due("P22 all right", x.sieve(), -1);
        due("P45 none wrong", x.wrong(), -2);
        due("P21 unsee", x.unsee(0), 1);
        due("P21 the one behind it", x.seen(0, 0), 1);
        for (int i = 2; i <= 12; i++) {
            due("P20 seen " + i, x.see(0, 0, 0, i), i);
        }
        due("P20 a 13th", x.see(0, 0, 0, 1), -1);
        due("P21 the last", x.unsee(11), 11);
        due("P22 all wrong ones", x.sieve(), 10);
        due("P22 left", x.count(3), 1);
    }

    private void undone() {
        ExchequerCloth x = new ExchequerCloth();
        String[] texts = new String[40];
        int[] cells = new int[40];
        int acts = 0;
        texts[0] = Told.spelled(x);
        for (int i = 0; i < 18; i++) {
            makeAct(x, i);
            acts++;
            texts[acts] = Told.spelled(x);
            cells[acts] = x.of(0, 0) * 100 + x.of(0, 1);
            due("P23 acts that can be undone, behind act " + i, x.count(4), Math.min(12, acts));
        }
        for (int left = 11; left >= 0; left--) {
            due("P23 undo", x.undo(), left);
            acts--;
            spells("P23 behind act " + acts, x, texts[acts]);
            due("P23 cells behind act " + acts, x.of(0, 0) * 100 + x.of(0, 1), cells[acts]);
        }
        due("P23 no more", x.undo(), -1);
        x.put(false, 0, 0, 1);
        x.put(false, 0, 0, 99);
        due("P23 what did not happen is no act", x.count(4), 1);
        x.feed(1, 2, 3, 4, 5);
        due("P23 the tape is no act", x.undo(), 0);
        due("P23 it stays", x.count(5), 20);
        due("P23 undo is no act", x.undo(), -1);
    }

    private void makeAct(ExchequerCloth x, int i) {
        switch (i) {
            case 0: x.column(1); break;
            case 1: x.column(5); break;
            case 2: x.row(); break;
            case 3: x.row(); break;
            case 4: x.put(false, 0, 0, 33); break;
            case 5: x.carry(false, 0, 0); break;
            case 6: x.shift(0, 1, 0, 7); break;
            case 7: x.slide(0, 0, true); break;
            case 8: x.see(1, 0, 0, 12); break;
            case 9: x.see(3, 0, 0, 21); break;
            case 10: x.unsee(0); break;
            case 11: x.strike(); break;
            case 12: x.start(); break;
            case 13: x.plain(0); break;
            case 14: x.doubled(0); break;
            case 15: x.pay(0, 1, 7); break;
            case 16: x.join(1, 0); break;
            default: x.drop(1);
        }
    }

    private void askedOfCloth() {
        ExchequerCloth x = Told.cloth(MONEY + "row 30 2 1;row 0 5;");
        due("P24 of", x.of(0, 0), 30);
        due("P24 row", x.of(2, 0), -1);
        due("P24 column", x.of(0, 3), -1);
        due("P24 below", x.of(-1, 0), -1);
        due("P24 column below", x.of(1, LEAST), -1);
        due("P25 sum", x.sum(0), 294);
        due("P25 all", x.sum(-1), 354);
        due("P25 no such", x.sum(2), -2);
        due("P25 below", x.sum(-2), -2);
        due("P26 counters", x.counters(0), 33);
        due("P26 all", x.counters(-1), 38);
        due("P26 no such", x.counters(2), -2);
        due("P26 below", x.counters(-2), -2);
        due("P27 ratio of 0", x.worth(0, 0), 1);
        due("P27 ratio", x.worth(2, 0), 20);
        due("P27 worth", x.worth(2, 1), 240);
        due("P27 counters", x.worth(1, 2), 7);
        due("P27 no such what", x.worth(1, 3), -1);
        due("P27 what below", x.worth(1, -1), -1);
        due("P27 no such column", x.worth(3, 0), -1);
        due("P28 plain of 500", x.plainOf(500, 2), 2);
        due("P28 shillings", x.plainOf(500, 1), 1);
        due("P28 pence", x.plainOf(500, 0), 8);
        due("P28 all", x.plainOf(500, -1), 11);
        due("P28 beyond 99", x.plainOf(24000, 2), 100);
        due("P28 the most", x.plainOf(MOST, 2), MOST / 240);
        due("P28 of 0", x.plainOf(0, -1), 0);
        due("P28 sum below 0", x.plainOf(-1, 0), -2);
        due("P28 no such column", x.plainOf(5, 3), -2);
        due("P28 column below NONE", x.plainOf(5, -2), -2);
        due("P28 no columns", new ExchequerCloth().plainOf(5, -1), -2);
        due("P29 carries", x.carries(0), 2);
        due("P29 plain", x.carries(1), 0);
        due("P29 no such", x.carries(2), -1);
        ExchequerCloth y = Told.cloth("column 1;column 2;column 2;row 99 99 99;");
        due("P29 through all columns", y.carries(0), 49 + 74);
        due("P33 fullest", x.fullest(), 0);
        x.put(false, 1, 2, 30);
        due("P33 the first of several", x.fullest(), 0);
        x.put(false, 1, 2, 1);
        due("P33 row 1, column 2", x.fullest(), 12);
        due("P33 no cells", new ExchequerCloth().fullest(), -1);
        due("P33 columns, no rows", Told.cloth(MONEY).fullest(), -1);
        due("P33 all empty", Told.cloth(MONEY + "row 0;").fullest(), 0);
        ExchequerCloth full = Told.cloth("column 1;column 20;column 20;column 20;column 20;column 20;"
            + "row 99 99 99 99 99 99;".repeat(4));
        due("P25 the greatest sum", full.sum(3), 99 * 3368421);
        due("P25 of all", full.sum(-1), 4 * 99 * 3368421);
        due("P27 the greatest worth", full.worth(5, 1), 3200000);
        due("P26 the most", full.counters(-1), 24 * 99);
    }

    private void canBe() {
        ExchequerCloth x = Told.cloth(MONEY + "row 30 2 1;row 0 5;");
        due("P30 put", x.can(0, 0, 9, 0, 69), 1);
        due("P30 put beyond", x.can(0, 0, 9, 0, 70), 0);
        due("P30 put of 0", x.can(0, 0, 9, 0, 0), 0);
        due("P30 take", x.can(1, 0, 9, 0, 30), 1);
        due("P30 take beyond", x.can(1, 0, 9, 0, 31), 0);
        due("P30 take of 0", x.can(1, 0, 9, 0, 0), 0);
        due("P30 take of the least", x.can(1, 0, 9, 0, LEAST), 0);
        due("P30 carry", x.can(2, 0, -5, 0, -5), 1);
        due("P30 carry of the highest", x.can(2, 0, 0, 2, 1), 0);
        due("P30 carry of too few", x.can(2, 1, 0, 1, 1), 0);
        due("P30 break", x.can(3, 0, -5, 2, -5), 1);
        due("P30 break of the lowest", x.can(3, 0, 0, 0, 1), 0);
        due("P30 break of none", x.can(3, 1, 0, 2, 1), 0);
        due("P30 shift", x.can(4, 0, 1, 0, 30), 1);
        due("P30 shift to itself", x.can(4, 0, 0, 0, 1), 0);
        due("P30 shift nowhere", x.can(4, 0, 2, 0, 1), 0);
        due("P30 shift of 0", x.can(4, 0, 1, 0, 0), 0);
        due("P30 other kinds", x.can(5, 0, 1, 0, 1), 0);
        due("P30 kind below 0", x.can(-1, 0, 1, 0, 1), 0);
        due("P30 no such row", x.can(0, 2, 0, 0, 1), 0);
        due("P30 no such column", x.can(0, 0, 0, 3, 1), 0);
        due("P30 far column", x.can(2, 0, 0, MOST, 1), 0);
        due("P30 is no move", x.count(2), 0);
    }

    private void comparedAndApart() {
        ExchequerCloth x = Told.cloth(MONEY + "row 12 19;row 0 0 1;row 1;row 24 0 1;");
        due("P31 alike", x.compare(0, 1), 0);
        due("P31 more", x.compare(0, 2), 1);
        due("P31 less", x.compare(2, 0), -1);
        due("P31 with itself", x.compare(2, 2), 0);
        due("P31 no such", x.compare(0, 4), -2);
        due("P31 no such first", x.compare(-1, 0), -2);
        due("P32 two carries", x.apart(0, 1), 2);
        due("P32 two breaks", x.apart(1, 0), 2);
        due("P32 unlike", x.apart(0, 3), -2);
        due("P32 itself", x.apart(3, 3), 0);
        due("P32 no such", x.apart(0, 4), -1);
        due("P32 no such first", x.apart(LEAST, 0), -1);
        ExchequerCloth y = Told.cloth("column 1;column 2;column 2;row 4 0 4;row 0 10;row 99 99;row 99 99 1;");
        due("P32 carries and breaks", y.apart(0, 1), 2 + 4);
        due("P32 breaks and carries", y.apart(1, 0), 2 + 4);
        due("P32 near but unlike", y.apart(2, 3), -2);
    }

    private void sumsTaken() {
        ExchequerCloth x = Told.cloth(MONEY + "row 30 2 1;row 0 5;row 0;");
        due("P34 of 24", x.ways(0, 24), 3);
        due("P34 of 0", x.ways(0, 0), 1);
        due("P34 of all", x.ways(0, 294), 1);
        due("P34 of more", x.ways(0, 295), 0);
        due("P34 of the most", x.ways(0, MOST), 0);
        due("P34 of an empty row", x.ways(2, 0), 1);
        due("P34 sum below 0", x.ways(0, -1), -1);
        due("P34 no such row", x.ways(3, 1), -1);
        ExchequerCloth many = Told.cloth("column 1;column 2;column 2;column 2;column 2;column 2;row 99 99 99 99 99 99;");
        due("P34 many ways", many.ways(0, 3118), 312500000L);
        due("P34 as many from the other side", many.ways(0, 63 * 99 - 3118), 312500000L);
        due("P35 of 24", x.taken(0, 24, -1), 2);
        due("P35 of 24 in shillings", x.taken(0, 24, 1), 2);
        due("P35 of 24 in pence", x.taken(0, 24, 0), 0);
        due("P35 of 53", x.taken(0, 53, 0), 29);
        due("P35 can't be", x.taken(0, 55, -1), -2);
        due("P35 can't be in a column", x.taken(0, 55, 2), -2);
        due("P35 of 0", x.taken(0, 0, -1), 0);
        due("P35 no such row", x.taken(3, 0, -1), -3);
        due("P35 no such column", x.taken(0, 0, 3), -3);
        due("P35 column below NONE", x.taken(0, 0, -2), -3);
        due("P35 sum below 0", x.taken(0, -1, -1), -3);
        due("P35 wrong ahead of can't", x.taken(0, 55, 3), -3);
        due("P36 one", x.breaks(0, 55), 1);
        due("P36 none", x.breaks(0, 294), 0);
        due("P36 never", x.breaks(0, 295), -2);
        due("P36 of 0", x.breaks(2, 0), 0);
        due("P36 sum below 0", x.breaks(0, -1), -1);
        due("P36 no such row", x.breaks(-1, 1), -1);
        ExchequerCloth high = Told.cloth("column 1;column 20;column 20;column 20;column 20;column 20;row 0 0 0 0 0 1;");
        due("P36 through all columns", high.breaks(0, 1), 5);
        due("P36 all but one", high.breaks(0, 3199999), 5);
        due("P36 half way", high.breaks(0, 8000), 2);
        due("P37 missing", x.missing(0), 55);
        due("P37 without pence", x.missing(1), 1);
        due("P37 empty", x.missing(2), 1);
        due("P37 no such row", x.missing(3), -1);
        due("P37 below 0", x.missing(-1), -1);
        due("P37 nothing misses", many.missing(0), 63 * 99 + 1);
    }

    private void payings() {
        ExchequerCloth x = Told.cloth(MONEY + "row 30 2 1;row 0 5;");
        due("P38 pays", x.pays(0, 1, 24), 2);
        due("P38 with change", x.pays(1, 0, 7), 6);
        due("P38 can't be", x.pays(1, 0, 61), -2);
        due("P38 the most", x.pays(1, 0, MOST), -2);
        due("P38 to itself", x.pays(0, 0, 1), -1);
        due("P38 sum 0", x.pays(0, 1, 0), -1);
        due("P38 no such row", x.pays(2, 1, 1), -1);
        due("P38 no such other", x.pays(0, -1, 1), -1);
        due("P39 back", x.paysOf(1, 0, 7, 0), -5);
        due("P39 over", x.paysOf(1, 0, 7, 1), 1);
        due("P39 none", x.paysOf(1, 0, 7, 2), 0);
        due("P39 can't be", x.paysOf(1, 0, 61, 0), -1000);
        due("P39 no such column", x.paysOf(1, 0, 7, 3), -1000);
        due("P39 column below 0", x.paysOf(1, 0, 7, -1), -1000);
        due("P39 to itself", x.paysOf(1, 1, 7, 0), -1000);
        due("P39 sum 0", x.paysOf(1, 0, 0, 0), -1000);
        x.put(true, 0, 0, 26);
        due("P38 less change than before", x.pays(1, 0, 7), -2);
        x.undo();
        due("P38 as before", x.pays(1, 0, 7), 6);
        due("P38 the other way", x.pays(0, 1, 7), 7);
        due("P39 the other way", x.paysOf(0, 1, 7, 0), 7);
        due("P39 a greater sum", x.paysOf(0, 1, 8, 0), 8);
        ExchequerCloth three = Told.cloth(MONEY + "row 5 1;row 5 1;row 0 1;");
        due("P38 from row 0 to 1", three.pays(0, 1, 11), 2);
        due("P38 from row 0 to 2", three.pays(0, 2, 11), -2);
        due("P38 from row 2 to 1", three.pays(2, 1, 11), 2);
        due("P38 from row 0 to 1 again", three.pays(0, 1, 11), 2);
        due("P38 from row 2 to 0", three.pays(2, 0, 11), 2);
        ExchequerCloth even = Told.cloth("column 1;column 12;row 10 10;row 10 10;");
        due("P38 6 over or 6 back", even.pays(0, 1, 6), 6);
        due("P39 6 go over", even.paysOf(0, 1, 6, 0), 6);
        ExchequerCloth tie = Told.cloth("column 1;column 3;row 10 10;row 10 10;");
        due("P38 2 over, or 1 over and 1 back", tie.pays(0, 1, 2), 2);
        due("P39 of several ways the least of column 0", tie.paysOf(0, 1, 2, 0), -1);
        due("P39 then", tie.paysOf(0, 1, 2, 1), 1);
        ExchequerCloth full = Told.cloth("column 1;column 3;row 99 10;row 99 10;");
        due("P38 neither may go beyond 99", full.pays(0, 1, 1), -2);
        due("P38 by the higher column", full.pays(0, 1, 3), 1);
    }

    private void logTold() {
        ExchequerCloth x = Told.cloth(MONEY + "row 30 2 1;row 0 5;put 0 0 1;take 0 1 2;carry 0 0;break 1 1;shift 0 1 2 1;");
        int[][] log = {{0, 0, 0, 1, 0}, {1, 0, 1, 2, 0}, {2, 0, 0, 0, 0}, {3, 1, 1, 0, 0}, {4, 0, 2, 1, 1}};
        for (int i = 0; i < log.length; i++) {
            for (int what = 0; what < 5; what++) {
                due("P40 move " + i + " " + what, x.move(i, what), log[i][what]);
            }
        }
        due("P40 no such move", x.move(5, 0), -1);
        due("P40 below 0", x.move(-1, 0), -1);
        due("P40 no such what", x.move(0, 5), -1);
        due("P40 what below 0", x.move(0, -1), -1);
        due("P41 the beginning", x.at(0, 0, 0), 30);
        due("P41 behind one", x.at(1, 0, 0), 31);
        due("P41 behind a carry", x.at(3, 0, 0), 19);
        due("P41 behind all", x.at(5, 1, 2), 1);
        due("P41 more than were made", x.at(6, 0, 0), -1000);
        due("P41 t below 0", x.at(-1, 0, 0), -1000);
        due("P41 no such row", x.at(0, 2, 0), -1000);
        due("P41 no such column", x.at(0, 0, 3), -1000);
        due("P42 the beginning", x.sumAt(0), 354);
        due("P42 behind one", x.sumAt(1), 355);
        due("P42 behind all", x.sumAt(5), 331);
        due("P42 more than were made", x.sumAt(6), LEAST);
        due("P42 t below 0", x.sumAt(-1), LEAST);
        due("P43 as the log says", x.differs(), 0);
        due("a slide", x.slide(1, 1, true), 228);
        due("P43 behind a slide", x.differs(), 2);
        due("a second slide", x.slide(1, 2, false), -228);
        due("P43 behind a slide back", x.differs(), 0);
        ExchequerCloth y = Told.cloth("column 1;column 2;row 0 1;");
        y.slide(0, 1, false);
        y.put(true, 0, 0, 1);
        due("P41 below 0", y.at(1, 0, 0), -1);
        due("P42 by the log", y.sumAt(1), 1);
        due("P43 in two cells", y.differs(), 2);
        ExchequerCloth z = Told.cloth("column 1;column 2;row 99 0;");
        z.slide(0, 0, true);
        z.put(false, 0, 0, 1);
        due("P41 above 99", z.at(1, 0, 0), 100);
        ExchequerCloth w = Told.cloth("column 1;column 20;row 1 0;");
        w.slide(0, 0, true);
        w.put(true, 0, 1, 1);
        due("P42 below 0", w.sumAt(1), -19);
    }

    private void sightsTold() {
        ExchequerCloth x = Told.cloth(MONEY + "row 30 2 1;put 0 0 1;seen 1 0 0 31;seen 0 0 2 2;");
        int[][] seen = {{1, 0, 0, 31, 1}, {0, 0, 2, 2, 0}};
        for (int k = 0; k < 2; k++) {
            for (int what = 0; what < 5; what++) {
                due("P44 seen " + k + " " + what, x.seen(k, what), seen[k][what]);
            }
        }
        due("P44 no such", x.seen(2, 0), -1);
        due("P44 below 0", x.seen(-1, 0), -1);
        due("P44 no such what", x.seen(0, 5), -1);
        due("P44 what below 0", x.seen(0, -1), -1);
        due("P45 the first that is not right", x.wrong(), 1);
        x.unsee(1);
        due("P45 none", x.wrong(), -2);
        x.slide(0, 0, true);
        due("P44 right is by the log, not by the cloth", x.seen(0, 4), 1);
    }

    private void slidesThatExplain() {
        ExchequerCloth x = Told.cloth("column 1;column 10;row 5;row 0 2;put 0 0 7;carry 0 0;shift 0 1 0 1;"
            + "seen 2 0 0 2;seen 3 1 0 11;");
        due("P46 what can't be explained", x.slides(), 0);
        due("P50 no times", x.times(), 0);
        x.unsee(1);
        due("P46 right as it is: slides in other places", x.slides(), 3 + 4);
        due("the first", x.slideAt(0, 0) * 1000 + x.slideAt(0, 1) * 100 + x.slideAt(0, 2) * 10 + x.slideAt(0, 3), 110);
        x.see(3, 1, 0, 2);
        due("P46 a slide down in row 1", x.slides(), 4);
        for (int i = 0; i < 4; i++) {
            int[] want = {i, 1, 1, 0, -9};
            for (int what = 0; what < 5; what++) {
                due("P47 slide " + i + " " + what, x.slideAt(i, what), want[what]);
            }
        }
        due("P47 not so many", x.slideAt(4, 0), -2);
        due("P47 below 0", x.slideAt(-1, 0), -2);
        due("P47 no such what", x.slideAt(0, 5), -2);
        due("P47 what below 0", x.slideAt(0, -1), -2);
        due("P50 times", x.times(), 15);
        x.see(1, 1, 0, 0);
        due("P46 behind the first move not yet", x.slides(), 2);
        due("P50 times", x.times(), 12);
        x.see(2, 1, 1, 1);
        due("P46 ahead of what is seen behind t moves", x.slides(), 1);
        due("P47 its time", x.slideAt(0, 0), 2);
        ExchequerCloth y = Told.cloth(MONEY + "row 1 1 1;");
        int[][] all = {{0, 1}, {1, 0}, {1, 1}, {2, 0}};
        due("P46 nothing seen", y.slides(), 4);
        for (int i = 0; i < 4; i++) {
            due("P47 order of columns " + i, y.slideAt(i, 2), all[i][0]);
            due("P47 down ahead of up " + i, y.slideAt(i, 3), all[i][1]);
        }
        due("P46 no rows", Told.cloth(MONEY).slides(), 0);
        ExchequerCloth most = Told.cloth("column 1;column 2;column 2;column 2;column 2;column 2;"
            + "row 9 9 9 9 9 9;".repeat(4) + "put 0 0 1;take 0 0 1;".repeat(12));
        due("P46 as many as can be", most.slides(), 1000);
        due("P47 the last", most.slideAt(999, 0) * 1000 + most.slideAt(999, 1) * 100 + most.slideAt(999, 2) * 10, 24350);
        due("P50 all times", most.times(), (1 << 25) - 1);
    }

    /** Moves that can't be as the log stands, or can't be with a slide ahead of them. */
    private void slidesAcrossBounds() {
        ExchequerCloth x = Told.cloth("column 1;column 2;row 0 1;");
        x.slide(0, 1, false);
        x.put(true, 0, 0, 1);
        due("P46 only the slide that was", x.slides(), 1);
        due("P47 its time", x.slideAt(0, 0), 0);
        due("P47 its column", x.slideAt(0, 2), 1);
        due("P47 down", x.slideAt(0, 3), 0);
        due("P48 without the take", x.leftOut(), 1);
        x.put(false, 0, 0, 1);
        due("P48 without the put it still can't be", x.leftOut(), 1);
        due("P49 the take", x.leftOutAt(0), 0);
        ExchequerCloth y = Told.cloth("column 1;column 2;row 1 98;take 0 0 1;put 0 0 1;put 0 1 1;");
        due("P46 a slide up makes the take or the last put impossible", y.slides(), 4);
        for (int i = 0; i < 4; i++) {
            due("P47 slides down alone", y.slideAt(i, 0) * 10 + y.slideAt(i, 3), 10 * i);
        }
        ExchequerCloth z = Told.cloth("column 1;column 2;row 99 98;");
        due("P46 one up, none down", z.slides(), 1);
        due("P47 up", z.slideAt(0, 3), 1);
    }

    private void leftOutMoves() {
        ExchequerCloth x = Told.cloth("column 1;row 5;put 0 0 2;put 0 0 4;take 0 0 3;seen 3 0 0 6;");
        due("P48 one", x.leftOut(), 1);
        due("P49 which", x.leftOutAt(0), 0);
        due("P49 no second", x.leftOutAt(1), -2);
        due("P49 far", x.leftOutAt(MOST), -2);
        due("P49 below 0", x.leftOutAt(-1), -1);
        x.see(1, 0, 0, 7);
        due("P48 seen behind that line", x.leftOut(), 0);
        x.unsee(1);
        x.see(1, 0, 0, 5);
        due("P48 that line counted, too", x.leftOut(), 1);
        x.unsee(1);
        x.unsee(0);
        due("P48 nothing seen", x.leftOut(), 3);
        due("P49 the last", x.leftOutAt(2), 2);
        ExchequerCloth y = Told.cloth("column 1;row 5;put 0 0 2;take 0 0 7;put 0 0 99;");
        due("P48 what others need can't be left out", y.leftOut(), 1);
        due("P49 the last put", y.leftOutAt(0), 2);
        due("P48 no moves", Told.cloth("column 1;row 5;").leftOut(), 0);
    }

    private void whereToLook() {
        ExchequerCloth x = Told.cloth("column 1;column 10;row 5 0;row 0 2;put 0 0 1;put 0 0 1;seen 2 0 1 1;");
        due("slides", x.slides(), 3);
        due("P51 t", x.look(0), 0);
        due("P51 row", x.look(1), 0);
        due("P51 column", x.look(2), 0);
        due("P51 number", x.look(3), 2);
        due("P51 no such what", x.look(4), -1);
        due("P51 what below 0", x.look(-1), -1);
        ExchequerCloth y = Told.cloth(MONEY + "row 1 1 1;");
        due("P51 of 4 slides", y.look(3), 2);
        due("P51 the first of several cells", y.look(2), 0);
        ExchequerCloth z = Told.cloth("column 1;row 1;");
        due("P51 no slides", z.look(0), -1);
    }

    private void reports() {
        ExchequerCloth x = Told.cloth(MONEY + "row 30 2 1;row 0 5;row 0;");
        String[] want = {"1 of 240;2 of 12;30 of 1;sum 294;", "5 of 12;sum 60;", "sum 0;"};
        for (int r = 0; r < 3; r++) {
            check.holds("P53 report " + r, Told.reported(x, r).equals(want[r]));
            due("P53 length", x.report(r, -1), want[r].length());
            due("P53 behind the last", x.report(r, want[r].length()), -2);
        }
        due("P53 far", x.report(0, MOST), -2);
        due("P53 below NONE", x.report(0, -2), -1);
        due("P53 no such row", x.report(3, -1), -1);
        due("P53 row below 0", x.report(-1, 0), -1);
        due("P53 another row", x.report(1, 0), '5');
        due("P52 between", x.spell(0), 'c');
        due("P53 again", x.report(1, 0), '5');
        x.put(false, 1, 1, 2);
        due("P53 as it lies then", x.report(1, 0), '7');
        x.undo();
        due("P53 and behind undo", x.report(1, 0), '5');
        ExchequerCloth full = Told.cloth("column 1;column 20;column 20;column 20;column 20;column 20;row 99 99 99 99 99 99;");
        check.holds("P53 the longest", Told.reported(full, 0).equals("99 of 3200000;99 of 160000;99 of 8000;"
            + "99 of 400;99 of 20;99 of 1;sum 333473679;"));
    }

    private void counts() {
        ExchequerCloth x = Told.cloth(MONEY + "row 30 2 1;row 0 5;row 12;row 54 0 1;put 0 0 1;seen 0 0 0 1;seen 1 0 0 1;");
        x.put(true, 0, 0, 1);
        x.feed(1, 2, 3, 4, 5);
        int[] want = {3, 4, 2, 2, 1, 20, 0b0010, 0, -1};
        for (int what = 0; what < want.length; what++) {
            due("P54 count " + what, x.count(what), want[what]);
        }
        due("P54 below 0", x.count(-1), -1);
        x.put(false, 3, 0, 1);
        due("P54 the greatest sum", x.count(7), 3);
        due("P54 without rows", Told.cloth(MONEY).count(7), -1);
        due("P54 plain without rows", Told.cloth(MONEY).count(6), 0);
        due("P54 empty rows are plain", Told.cloth(MONEY + "row 0;row 0;").count(6), 3);
        due("P54 the first of empty rows", Told.cloth(MONEY + "row 0;row 0;").count(7), 0);
        due("P54 one column is always plain", Told.cloth("column 1;row 99;").count(6), 1);
    }
}
