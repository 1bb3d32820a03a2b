/** Promises 20 to 23: what is seen, unseen, sieved, and undo. */
final class SightActBoundaries {
    private static final String SMALL = "column 1;column 2;row 5 5;row 6 6;put 0 0 1;take 1 1 6;";

    private final Boundary b;

    SightActBoundaries(Boundary boundary) {
        b = boundary;
    }

    void run() {
        see();
        unsee();
        sieve();
        undo();
        undoOfEachAct();
    }

    private static ExchequerCloth twelve() {
        return Told.cloth(SMALL + "seen 0 0 0 5;seen 1 0 0 5;".repeat(6));
    }

    private void see() {
        b.promise(20, "SEEN: behind t MOVES (no more than were made) a CELL had n (0 .. 99): how many are SEEN", () -> {
            ExchequerCloth x = Told.cloth(SMALL);
            b.due("behind none, 0", x.see(0, 0, 0, 0), 1);
            b.due("behind all, 99", x.see(2, 1, 1, 99), 2);
            b.due("the same again", x.see(2, 1, 1, 99), 3);
            b.spells(x, SMALL + "seen 0 0 0 0;seen 2 1 1 99;seen 2 1 1 99;");
        });
        b.promise(20, "NONE, and nothing happens: out of bounds", () -> {
            for (int far : Boundary.outside(3)) {
                b.refused(SMALL, "see behind " + far, x -> x.see(far, 0, 0, 5), -1);
            }
            for (int far : Boundary.outside(2)) {
                b.refused(SMALL, "see in row " + far, x -> x.see(0, far, 0, 5), -1);
                b.refused(SMALL, "see in column " + far, x -> x.see(0, 0, far, 5), -1);
            }
            for (int far : Boundary.outside(100)) {
                b.refused(SMALL, "see " + far, x -> x.see(0, 0, 0, far), -1);
            }
            b.refused(ExchequerCloth::new, "see", x -> x.see(0, 0, 0, 0), -1);
        });
        b.promise(20, "there are 12", () -> {
            ExchequerCloth x = Told.cloth(SMALL);
            for (int k = 1; k <= 12; k++) {
                b.due("see", x.see(0, 0, 0, k), k);
            }
            b.due("a 13th", x.see(0, 0, 0, 5), -1);
            b.due("n of the last", x.seen(11, 3), 12);
            b.refused(SightActBoundaries::twelve, "a 13th", y -> y.see(0, 0, 0, 5), -1);
        });
        b.terms(20, "SEEN (at most 12): behind t MOVES CELL r c had n COUNTERS (in a TEXT: t, r, c, n).", () -> {
            ExchequerCloth x = Told.cloth(SMALL + "seen 2 1 0 77;");
            for (int what = 0; what < 4; what++) {
                b.due("seen(0, " + what + ")", x.seen(0, what), new int[] {2, 1, 0, 77}[what]);
            }
            ExchequerCloth full = twelve();
            b.due("a 13th", full.see(0, 0, 0, 0), -1);
            full.unsee(0);
            b.due("a 12th again", full.see(0, 0, 0, 0), 12);
        });
    }

    private void unsee() {
        b.promise(21, "SEEN k goes (those behind it are one less): how many are left", () -> {
            String text = SMALL + "seen 0 0 0 1;seen 0 0 0 2;seen 0 0 0 3;";
            ExchequerCloth first = Told.cloth(text);
            b.due("the first", first.unsee(0), 2);
            b.spells(first, SMALL + "seen 0 0 0 2;seen 0 0 0 3;");
            ExchequerCloth last = Told.cloth(text);
            b.due("the last", last.unsee(2), 2);
            b.spells(last, SMALL + "seen 0 0 0 1;seen 0 0 0 2;");
            last.unsee(0);
            b.due("the only one", last.unsee(0), 0);
            ExchequerCloth full = twelve();
            b.due("the last of 12", full.unsee(11), 11);
        });
        b.promise(21, "NONE: no such one", () -> {
            for (int far : Boundary.outside(2)) {
                b.refused(SMALL + "seen 0 0 0 1;seen 0 0 0 2;", "unsee(" + far + ")", x -> x.unsee(far), -1);
            }
            b.refused(SMALL, "unsee(0) of none", x -> x.unsee(0), -1);
            b.refused(SightActBoundaries::twelve, "unsee(12) of 12", x -> x.unsee(12), -1);
        });
    }

    private void sieve() {
        b.promise(22, "All SEEN that are not RIGHT go: how many went", () -> {
            ExchequerCloth x = twelve();
            b.due("half of 12", x.sieve(), 6);
            b.spells(x, SMALL + "seen 0 0 0 5;".repeat(6));
            ExchequerCloth all = Told.cloth(SMALL + "seen 0 0 0 6;seen 1 0 0 5;");
            b.due("all", all.sieve(), 2);
            b.due("count(3)", all.count(3), 0);
            ExchequerCloth ends = Told.cloth(SMALL + "seen 0 0 0 4;seen 0 0 0 5;seen 0 0 0 6;");
            b.due("the first and the last", ends.sieve(), 2);
            b.spells(ends, SMALL + "seen 0 0 0 5;");
        });
        b.promise(22, "NONE, and nothing happens: none", () -> {
            b.refused(ExchequerCloth::new, "a new object", x -> x.sieve(), -1);
            b.refused(SMALL, "none SEEN", x -> x.sieve(), -1);
            b.refused(SMALL + "seen 0 0 0 5;seen 2 1 1 0;", "all are RIGHT", x -> x.sieve(), -1);
        });
    }

    private void undo() {
        b.promise(23, "The latest ACT is taken back: how many more can be", () -> {
            ExchequerCloth x = Told.cloth("column 1;row 0;");
            for (int i = 0; i < 30; i++) {
                x.see(0, 0, 0, i);
                x.unsee(0);
            }
            x.see(0, 0, 0, 77);
            b.due("count(4)", x.count(4), 12);
            for (int left = 11; left >= 0; left--) {
                b.due("undo", x.undo(), left);
                b.due("count(3)", x.count(3), left % 2 == 1 ? 0 : 1);
            }
            b.due("n of what is SEEN then", x.seen(0, 3), 24);
            b.due("undo", x.undo(), -1);
        });
        b.promise(23, "NONE: none can", () -> {
            b.refused(ExchequerCloth::new, "a new object", x -> x.undo(), -1);
            ExchequerCloth x = new ExchequerCloth();
            x.column(1);
            b.due("one act", x.undo(), 0);
            b.due("and none", x.undo(), -1);
            b.due("count(0)", x.count(0), 0);
        });
        b.promise(23, "The latest ACT", () -> {
            ExchequerCloth x = Told.cloth("column 1;row 5;");
            x.put(false, 0, 0, 1);
            x.feed(0x20202020, 0x20202020, 0x20202020, 0x20202020, 0x20202020);
            x.back(3);
            x.slides();
            x.put(false, 0, 0, 99);
            b.due("the tape, what is asked and what is refused are none", x.undo(), 0);
            b.due("of(0, 0)", x.of(0, 0), 5);
            b.due("count(5)", x.count(5), 17);
        });
    }

    private void undoOfEachAct() {
        b.promise(23, "is taken back", () -> {
            String text = "column 1;column 5;row 20 3;row 9 9;put 0 0 2;carry 0 0;seen 1 0 0 22;seen 2 0 0 9;";
            takenBack(text, "column", x -> x.column(3));
            takenBack(text, "row", x -> x.row());
            takenBack(text, "drop", x -> x.drop(0));
            takenBack(text, "put", x -> x.put(false, 0, 0, 3));
            takenBack(text, "take", x -> x.put(true, 0, 0, 3));
            takenBack(text, "carry", x -> x.carry(false, 0, 0));
            takenBack(text, "break", x -> x.carry(true, 0, 1));
            takenBack(text, "shift", x -> x.shift(0, 1, 0, 3));
            takenBack(text, "strike", x -> x.strike());
            takenBack(text, "slide up", x -> x.slide(0, 0, true));
            takenBack(text, "slide down", x -> x.slide(0, 1, false));
            takenBack(text, "plain", x -> x.plain(0));
            takenBack(text, "join", x -> x.join(0, 1));
            takenBack(text, "doubled", x -> x.doubled(0));
            takenBack(text, "halve", x -> x.halve(0));
            takenBack(text, "pay", x -> x.pay(0, 1, 7));
            takenBack(text, "clear", x -> x.clear(0));
            takenBack(text, "start", x -> x.start());
            takenBack(text, "see", x -> x.see(0, 0, 0, 7));
            takenBack(text, "unsee", x -> x.unsee(0));
            takenBack(text, "sieve", x -> x.sieve());
        });
    }

    private void takenBack(String text, String call, java.util.function.ToLongFunction<ExchequerCloth> act) {
        ExchequerCloth x = Told.cloth(text);
        String before = State.of(x);
        act.applyAsLong(x);
        b.due("acts behind " + call, x.count(4), 1);
        b.due("undo of " + call, x.undo(), 0);
        b.same("the cloth behind undo of " + call, State.of(x), before);
        b.spells(x, text);
    }
}
