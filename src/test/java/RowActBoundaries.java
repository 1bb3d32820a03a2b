/** Promises 13 to 19: acts on whole rows. */
final class RowActBoundaries {
    private static final String MONEY = "column 1;column 12;column 20;";
    private static final String LOGGED = "put 0 0 1;take 0 0 1;seen 1 0 0 9;";

    private final Boundary b;

    RowActBoundaries(Boundary boundary) {
        b = boundary;
    }

    void run() {
        plain();
        join();
        doubled();
        halve();
        pay();
        clear();
        start();
    }

    private void plain() {
        b.promise(13, "A ROW becomes PLAIN, ANEW: how many COUNTERS fewer it has", () -> {
            ExchequerCloth x = Told.cloth(MONEY + "row 12;row 99 99 0;");
            b.due("plain(0)", x.plain(0), 11);
            b.due("plain(1)", x.plain(1), 198 - (3 + 7 + 5));
            b.spells(x, MONEY + "row 0 1 0;row 3 7 5;");
        });
        b.promise(13, "NONE, and nothing happens: no such one", () -> {
            for (int far : Boundary.outside(2)) {
                b.refused(MONEY + "row 50 50;row 50 50;" + LOGGED, "plain(" + far + ")", x -> x.plain(far), -1);
            }
            b.refused(ExchequerCloth::new, "plain(0)", x -> x.plain(0), -1);
        });
        b.promise(13, "it is so", () -> {
            b.refused(MONEY + "row 11 19 99;", "the greatest", x -> x.plain(0), -1);
            b.refused(MONEY + "row 0;" + LOGGED, "an empty one", x -> x.plain(0), -1);
            b.refused("column 1;row 99;", "one column", x -> x.plain(0), -1);
            b.due("one penny more", Told.cloth(MONEY + "row 12 18 0;").plain(0), 11);
            b.due("one shilling more", Told.cloth(MONEY + "row 11 20 0;").plain(0), 19);
        });
        b.promise(13, "more than 99 would lie in a CELL", () -> {
            b.due("up to 99", Told.cloth(MONEY + "row 12 19 98;").plain(0), 30);
            b.refused(MONEY + "row 12 19 99;", "beyond 99", x -> x.plain(0), -1);
            b.refused("column 1;column 2;row 99 99;take 0 0 1;put 0 0 1;seen 0 0 0 9;", "far beyond 99", x -> x.plain(0), -1);
        });
    }

    private void join() {
        b.promise(14, "All COUNTERS of a ROW come to another one, ANEW: SUM of that one", () -> {
            ExchequerCloth x = Told.cloth(MONEY + "row 50 1 0;row 49 98 99;");
            b.due("join(0, 1), up to 99", x.join(0, 1), 99 + 99 * 12 + 99 * 240);
            b.spells(x, MONEY + "row 0 0 0;row 99 99 99;");
            b.due("back, to an empty one", x.join(1, 0), 99 * 253);
        });
        b.promise(14, "NONE, and nothing happens: no such ones", () -> {
            String text = MONEY + "row 1;row 2;" + LOGGED;
            for (int far : Boundary.outside(2)) {
                b.refused(text, "join(" + far + ", 0)", x -> x.join(far, 0), -1);
                b.refused(text, "join(0, " + far + ")", x -> x.join(0, far), -1);
                b.refused(text, "join of " + far + " with itself", x -> x.join(far, far), -1);
            }
        });
        b.promise(14, "both are one", () -> {
            b.refused(MONEY + "row 1;row 2;" + LOGGED, "join(0, 0)", x -> x.join(0, 0), -1);
            b.refused(MONEY + "row 1;row 2;" + LOGGED, "join(1, 1)", x -> x.join(1, 1), -1);
        });
        b.promise(14, "a CELL would have more than 99", () -> {
            b.refused(MONEY + "row 50;row 50;" + LOGGED, "in column 0", x -> x.join(0, 1), -1);
            b.refused(MONEY + "row 1 1 1;row 0 0 99;" + LOGGED, "in the highest column", x -> x.join(0, 1), -1);
        });
        b.promise(14, "the first one is empty", () -> {
            b.refused(MONEY + "row 1;row 0;" + LOGGED, "join(1, 0)", x -> x.join(1, 0), -1);
            b.refused(MONEY + "row 0;row 0;", "both are empty", x -> x.join(1, 0), -1);
            b.due("the other one may be", Told.cloth(MONEY + "row 0 0 1;row 0;").join(0, 1), 240);
        });
    }

    private void doubled() {
        b.promise(15, "Each CELL of a ROW has twice as many COUNTERS, ANEW: its SUM", () -> {
            ExchequerCloth x = Told.cloth(MONEY + "row 1 2 3;row 49 0 49;");
            b.due("doubled(1), up to 98", x.doubled(1), 98 * 241);
            b.spells(x, MONEY + "row 1 2 3;row 98 0 98;");
        });
        b.promise(15, "NONE, and nothing happens: no such one", () -> {
            for (int far : Boundary.outside(2)) {
                b.refused(MONEY + "row 1;row 2;" + LOGGED, "doubled(" + far + ")", x -> x.doubled(far), -1);
            }
        });
        b.promise(15, "a CELL would have more than 99", () -> {
            b.refused(MONEY + "row 50;" + LOGGED, "in column 0", x -> x.doubled(0), -1);
            b.refused(MONEY + "row 1 1 50;" + LOGGED, "in the highest column", x -> x.doubled(0), -1);
        });
        b.promise(15, "it is empty", () ->
            b.refused(MONEY + "row 0;row 1;" + LOGGED, "doubled(0)", x -> x.doubled(0), -1));
    }

    private void halve() {
        b.promise(16, "A ROW is PLAIN of half its SUM, cut, ANEW: what was left (0, 1)", () -> {
            ExchequerCloth x = Told.cloth(MONEY + "row 50;row 0 0 1;row 1;row 99 99 99;");
            b.due("halve of 50", x.halve(0), 0);
            b.due("halve of a pound", x.halve(1), 0);
            b.due("halve of 1", x.halve(2), 1);
            b.due("halve of the most", x.halve(3), 1);
            b.spells(x, MONEY + "row 1 2 0;row 0 10 0;row 0 0 0;row 7 3 52;");
        });
        b.promise(16, "NONE, and nothing happens: no such one", () -> {
            for (int far : Boundary.outside(2)) {
                b.refused(MONEY + "row 1;row 2;" + LOGGED, "halve(" + far + ")", x -> x.halve(far), -1);
            }
        });
        b.promise(16, "it is empty", () ->
            b.refused(MONEY + "row 0;row 1;" + LOGGED, "halve(0)", x -> x.halve(0), -1));
        b.promise(16, "more than 99 would lie in a CELL", () -> {
            // half of the greatest SUM never needs as many: it is what fits, at the edge
            ExchequerCloth x = Told.cloth("column 1;column 2;column 2;column 2;column 2;column 2;row 99 99 99 99 99 99;");
            b.due("halve of the fullest row", x.halve(0), 1);
            b.spells(x, "column 1;column 2;column 2;column 2;column 2;column 2;row 0 1 1 1 0 97;");
            ExchequerCloth one = Told.cloth("column 1;row 99;");
            b.due("halve of one full column", one.halve(0) * 100 + one.of(0, 0), 149);
        });
    }

    private void pay() {
        b.promise(17, "A sum is paid as PAYS tells, ANEW: how many COUNTERS went and came", () -> {
            ExchequerCloth x = Told.cloth(MONEY + "row 0 5;row 30 2;" + LOGGED.replace("0 0", "1 0"));
            b.due("a shilling goes, five pence come", x.pay(0, 1, 7), 6);
            b.spells(x, MONEY + "row 5 4 0;row 25 3 0;");
            b.due("all that is there", x.pay(0, 1, 53), 9);
            b.spells(x, MONEY + "row 0 0 0;row 30 7 0;");
        });
        b.promise(17, "-2, and nothing happens: it can't be", () -> {
            String text = MONEY + "row 0 5;row 4 2;put 1 0 1;take 1 0 1;seen 1 1 0 9;";
            b.refused(text, "more than there is", x -> x.pay(0, 1, 61), -2);
            b.refused(text, "the most", x -> x.pay(0, 1, Boundary.MOST), -2);
            b.refused(text, "no change for it", x -> x.pay(0, 1, 7), -2);
            b.refused("column 1;row 5;row 99;", "no room for it", x -> x.pay(0, 1, 1), -2);
            b.refused("column 1;row 0;row 5;", "from an empty row", x -> x.pay(0, 1, 1), -2);
            b.due("with change for it", Told.cloth(text).pay(0, 1, 8), 5);
        });
        b.promise(17, "NONE, and nothing happens: no such ROWS", () -> {
            String text = MONEY + "row 5;row 5;" + LOGGED;
            for (int far : Boundary.outside(2)) {
                b.refused(text, "pay(" + far + ", 0, 1)", x -> x.pay(far, 0, 1), -1);
                b.refused(text, "pay(0, " + far + ", 1)", x -> x.pay(0, far, 1), -1);
                b.refused(text, "pay(" + far + ", " + far + ", 1)", x -> x.pay(far, far, 1), -1);
            }
        });
        b.promise(17, "both are one", () ->
            b.refused(MONEY + "row 5;row 5;" + LOGGED, "pay(0, 0, 1)", x -> x.pay(0, 0, 1), -1));
        b.promise(17, "a sum below 1", () -> {
            for (int sum : new int[] {0, -1, Boundary.LEAST}) {
                b.refused(MONEY + "row 5;row 5;" + LOGGED, "pay of " + sum, x -> x.pay(0, 1, sum), -1);
            }
            b.due("pay of 1", Told.cloth(MONEY + "row 5;row 5;").pay(0, 1, 1), 1);
        });
        b.terms(17, "Where NONE and -2 could both be told, it is NONE.", () -> {
            ExchequerCloth x = Told.cloth(MONEY + "row 5;row 5;");
            b.due("more than there is, to no such row", x.pay(0, 2, 99), -1);
            b.due("more than there is, to itself", x.pay(0, 0, 99), -1);
        });
    }

    private void clear() {
        b.promise(18, "A ROW becomes empty, ANEW: what its SUM was", () -> {
            ExchequerCloth x = Told.cloth(MONEY + "row 1 2 3;row 4 5 6;");
            b.due("clear(1)", x.clear(1), 4 + 60 + 1440);
            b.spells(x, MONEY + "row 1 2 3;row 0 0 0;");
        });
        b.promise(18, "NONE: no such one", () -> {
            for (int far : Boundary.outside(2)) {
                b.refused(MONEY + "row 1;row 2;" + LOGGED, "clear(" + far + ")", x -> x.clear(far), -1);
            }
        });
        b.promise(18, "it is", () -> {
            b.refused(MONEY + "row 0;row 2;" + LOGGED, "clear(0)", x -> x.clear(0), -1);
            ExchequerCloth x = Told.cloth(MONEY + "row 0 0 1;");
            b.due("clear of the last counter", x.clear(0), 240);
            b.due("clear again", x.clear(0), -1);
        });
    }

    private void start() {
        b.promise(19, "ANEW as the cloth lies: how many MOVES THE LOG had", () -> {
            ExchequerCloth x = Told.cloth("column 1;column 2;row 5 5;" + "put 0 0 1;take 0 0 1;".repeat(12));
            x.slide(0, 0, true);
            b.due("a full LOG", x.start(), 24);
            b.spells(x, "column 1;column 2;row 4 6;");
            b.due("differs", x.differs(), 0);
        });
        b.promise(19, "NONE, and nothing happens: no MOVES, nothing SEEN, no SLIDE since the BEGINNING", () -> {
            b.refused(ExchequerCloth::new, "start", x -> x.start(), -1);
            b.refused("column 1;column 2;row 5 5;", "start", x -> x.start(), -1);
        });
        b.promise(19, "no MOVES", () -> {
            ExchequerCloth x = Told.cloth("column 1;column 2;row 5 5;put 0 0 1;");
            b.due("one MOVE alone", x.start(), 1);
            b.due("and none", x.start(), -1);
        });
        b.promise(19, "nothing SEEN", () -> {
            ExchequerCloth x = Told.cloth("column 1;column 2;row 5 5;seen 0 0 0 5;");
            b.due("one SEEN alone", x.start(), 0);
            b.due("count(3)", x.count(3), 0);
            b.due("and none", x.start(), -1);
        });
        b.promise(19, "no SLIDE since the BEGINNING by which it lies otherwise than BY THE LOG", () -> {
            ExchequerCloth x = Told.cloth("column 1;column 2;row 5 5;");
            x.slide(0, 0, true);
            b.due("one SLIDE alone", x.start(), 0);
            b.due("the BEGINNING", x.at(0, 0, 0), 4);
            b.refused(() -> {
                ExchequerCloth y = Told.cloth("column 1;column 2;row 5 5;");
                y.slide(0, 0, true);
                y.slide(0, 1, false);
                return y;
            }, "a SLIDE and one back", y -> y.start(), -1);
        });
    }
}
