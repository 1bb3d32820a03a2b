/**
 * An exchequer of counters: a cloth with columns of unlike worth and rows, moves in a log,
 * what was seen between moves, and the slides or moves left out that would explain it.
 * Every array is made in the constructor and used again, so that a long run of calls makes
 * nothing new.
 */
public final class ExchequerCloth {
    public static final int NONE = -1;

    private static final int CANNOT = -2;
    private static final int NOT_ASKED_RIGHT = -3;
    private static final int FAR_BELOW = -1000;
    private static final int FAULT_BASE = -4;

    private static final int COLUMNS = 6;
    private static final int ROWS = 4;
    private static final int CELLS = ROWS * COLUMNS;
    private static final int FULL = 99;
    private static final int MOST_RATIO = 20;
    private static final int MOVES = 24;
    private static final int MOVE_FIELDS = 5;
    private static final int SIGHTS = 12;
    private static final int SIGHT_FIELDS = 4;
    private static final int ACTS = 12;
    private static final int TAPE = 400;
    private static final int FEED = 20;

    private static final int PUT = 0;
    private static final int TAKE = 1;
    private static final int CARRY = 2;
    private static final int BREAK = 3;
    private static final int SHIFT = 4;

    private final Reader reader = new Reader();
    private final Tape tape = reader.tape;
    private final Cloth cloth = new Cloth();
    private final Past past = new Past();
    private final Purse purse = new Purse();
    private final Payment payment = new Payment();
    private final Inquest inquest = new Inquest();
    private final Scribe scribe = new Scribe();
    private final Effect effect = new Effect();

    public ExchequerCloth() {
    }

    // ---- told

    public int feed(int a, int b, int c, int d, int e) {
        if (tape.length + FEED > TAPE) {
            return NONE;
        }
        tape.addWord(a);
        tape.addWord(b);
        tape.addWord(c);
        tape.addWord(d);
        tape.addWord(e);
        return tape.length;
    }

    public int back(int n) {
        if (n < 0 || n > tape.length) {
            return NONE;
        }
        tape.length -= n;
        return tape.length;
    }

    public int text() {
        int fault = reader.readAll();
        tape.length = 0;
        if (fault != NONE) {
            return FAULT_BASE - fault;
        }
        cloth.copyFrom(reader.draft);
        past.depth = 0;
        forgetAnswers();
        return cloth.rows;
    }

    // ---- acts: columns, rows

    public int column(int ratio) {
        if (!cloth.mayAddColumn(ratio)) {
            return NONE;
        }
        beginAct();
        cloth.addColumn(ratio);
        cloth.makeAnew();
        return cloth.columns - 1;
    }

    public int row() {
        if (!cloth.mayAddRow()) {
            return NONE;
        }
        beginAct();
        cloth.rows++;
        cloth.makeAnew();
        return cloth.rows - 1;
    }

    public int drop(int row) {
        if (!cloth.hasRow(row)) {
            return NONE;
        }
        int gone = cloth.sumOf(row);
        beginAct();
        cloth.removeRow(row);
        cloth.makeAnew();
        return gone;
    }

    // ---- acts: moves

    public int put(boolean taken, int row, int column, int k) {
        return makeMove(taken ? TAKE : PUT, row, 0, column, k) ? cloth.cellAt(row, column) : NONE;
    }

    public int carry(boolean broken, int row, int column) {
        return makeMove(broken ? BREAK : CARRY, row, 0, column, 0) ? cloth.cellAt(row, column) : NONE;
    }

    public int shift(int row, int other, int column, int k) {
        return makeMove(SHIFT, row, other, column, k) ? cloth.cellAt(other, column) : NONE;
    }

    public int strike() {
        if (cloth.moves == 0) {
            return NONE;
        }
        cloth.describeLogged(effect, cloth.moves - 1);
        effect.reverse();
        if (!cloth.staysInBounds(effect)) {
            return CANNOT;
        }
        beginAct();
        cloth.apply(effect);
        cloth.moves--;
        cloth.dropSightsBehind(cloth.moves);
        return cloth.moves;
    }

    public int slide(int row, int column, boolean up) {
        int target = up ? column + 1 : column - 1;
        if (!cloth.hasCell(row, column) || !cloth.hasColumn(target)) {
            return 0;
        }
        effect.tellSlide(row * COLUMNS + column, up);
        if (!cloth.staysInBounds(effect)) {
            return 0;
        }
        beginAct();
        cloth.apply(effect);
        return cloth.worth[target] - cloth.worth[column];
    }

    // ---- acts: whole rows

    public int plain(int row) {
        if (!cloth.hasRow(row) || purse.isPlain(cloth, row)) {
            return NONE;
        }
        int before = cloth.countersOf(row);
        int after = purse.splitPlain(cloth, cloth.sumOf(row));
        if (!purse.partsFit(cloth)) {
            return NONE;
        }
        beginAct();
        layParts(row);
        return before - after;
    }

    public int join(int row, int other) {
        if (!areTwoRows(row, other) || cloth.countersOf(row) == 0 || !cloth.joinFits(row, other)) {
            return NONE;
        }
        beginAct();
        for (int c = 0; c < cloth.columns; c++) {
            cloth.cell[other * COLUMNS + c] += cloth.cell[row * COLUMNS + c];
            cloth.cell[row * COLUMNS + c] = 0;
        }
        cloth.makeAnew();
        return cloth.sumOf(other);
    }

    public int doubled(int row) {
        if (!cloth.hasRow(row) || cloth.countersOf(row) == 0 || !cloth.joinFits(row, row)) {
            return NONE;
        }
        beginAct();
        for (int c = 0; c < cloth.columns; c++) {
            cloth.cell[row * COLUMNS + c] *= 2;
        }
        cloth.makeAnew();
        return cloth.sumOf(row);
    }

    public int halve(int row) {
        if (!cloth.hasRow(row) || cloth.countersOf(row) == 0) {
            return NONE;
        }
        int whole = cloth.sumOf(row);
        purse.splitPlain(cloth, whole / 2);
        if (!purse.partsFit(cloth)) {
            return NONE;
        }
        beginAct();
        layParts(row);
        return whole % 2;
    }

    public int pay(int row, int other, int sum) {
        if (!areTwoRows(row, other) || sum < 1) {
            return NONE;
        }
        int counters = payment.settle(cloth, row, other, sum);
        if (counters == CANNOT) {
            return CANNOT;
        }
        beginAct();
        for (int c = 0; c < cloth.columns; c++) {
            cloth.cell[row * COLUMNS + c] -= payment.over[c];
            cloth.cell[other * COLUMNS + c] += payment.over[c];
        }
        cloth.makeAnew();
        return counters;
    }

    public int clear(int row) {
        if (!cloth.hasRow(row) || cloth.countersOf(row) == 0) {
            return NONE;
        }
        int gone = cloth.sumOf(row);
        beginAct();
        cloth.emptyRow(row);
        cloth.makeAnew();
        return gone;
    }

    public int start() {
        int had = cloth.moves;
        if (had == 0 && cloth.sights == 0 && inquest.cellsApart(cloth) == 0) {
            return NONE;
        }
        beginAct();
        cloth.makeAnew();
        return had;
    }

    public int see(int t, int row, int column, int n) {
        boolean inBounds = t >= 0 && t <= cloth.moves && cloth.hasCell(row, column) && n >= 0 && n <= FULL;
        if (!inBounds || cloth.sights >= SIGHTS) {
            return NONE;
        }
        beginAct();
        cloth.addSight(t, row, column, n);
        return cloth.sights;
    }

    public int unsee(int k) {
        if (k < 0 || k >= cloth.sights) {
            return NONE;
        }
        beginAct();
        cloth.dropSight(k);
        return cloth.sights;
    }

    public int sieve() {
        if (inquest.firstWrong(cloth) == CANNOT) {
            return NONE;
        }
        int before = cloth.sights;
        beginAct();
        // from the last one on, so that what lacks is still told by the numbers of before
        for (int k = before - 1; k >= 0; k--) {
            if (inquest.lack[k] != 0) {
                cloth.dropSight(k);
            }
        }
        return before - cloth.sights;
    }

    public int undo() {
        if (past.depth == 0) {
            return NONE;
        }
        past.giveBack(cloth);
        forgetAnswers();
        return past.depth;
    }

    // ---- asked of the cloth

    public int of(int row, int column) {
        return cloth.hasCell(row, column) ? cloth.cellAt(row, column) : NONE;
    }

    public int sum(int row) {
        if (row == NONE) {
            return cloth.sumOfAll();
        }
        return cloth.hasRow(row) ? cloth.sumOf(row) : CANNOT;
    }

    public int counters(int row) {
        if (row == NONE) {
            return cloth.countersOfAll();
        }
        return cloth.hasRow(row) ? cloth.countersOf(row) : CANNOT;
    }

    public int worth(int column, int what) {
        if (!cloth.hasColumn(column)) {
            return NONE;
        }
        switch (what) {
            case 0:
                return cloth.ratio[column];
            case 1:
                return cloth.worth[column];
            case 2:
                return cloth.countersIn(column);
            default:
                return NONE;
        }
    }

    public int plainOf(int sum, int column) {
        if (cloth.columns == 0 || sum < 0) {
            return CANNOT;
        }
        int all = purse.splitPlain(cloth, sum);
        if (column == NONE) {
            return all;
        }
        return cloth.hasColumn(column) ? purse.part[column] : CANNOT;
    }

    public int carries(int row) {
        return cloth.hasRow(row) ? purse.carriesOf(cloth, row) : NONE;
    }

    public int can(int kind, int row, int other, int column, int k) {
        return cloth.canMake(effect, kind, row, other, column, k) ? 1 : 0;
    }

    public int compare(int row, int other) {
        if (!cloth.hasRow(row) || !cloth.hasRow(other)) {
            return CANNOT;
        }
        int first = cloth.sumOf(row);
        int second = cloth.sumOf(other);
        return first > second ? 1 : first == second ? 0 : -1;
    }

    public int apart(int row, int other) {
        if (!cloth.hasRow(row) || !cloth.hasRow(other)) {
            return NONE;
        }
        if (cloth.sumOf(row) != cloth.sumOf(other)) {
            return CANNOT;
        }
        return purse.movesApart(cloth, row, other);
    }

    public int fullest() {
        int best = NONE;
        int most = NONE;
        for (int r = 0; r < cloth.rows; r++) {
            for (int c = 0; c < cloth.columns; c++) {
                if (cloth.cell[r * COLUMNS + c] > most) {
                    most = cloth.cell[r * COLUMNS + c];
                    best = 10 * r + c;
                }
            }
        }
        return best;
    }

    // ---- sums taken and paid

    public long ways(int row, int sum) {
        return cloth.hasRow(row) && sum >= 0 ? purse.countWays(cloth, row, sum) : NONE;
    }

    public int taken(int row, int sum, int column) {
        boolean columnRight = column == NONE || cloth.hasColumn(column);
        if (!cloth.hasRow(row) || !columnRight || sum < 0) {
            return NOT_ASKED_RIGHT;
        }
        purse.liftRow(cloth, row);
        if (!purse.takeFewest(cloth, sum)) {
            return CANNOT;
        }
        return column == NONE ? purse.countParts(cloth) : purse.part[column];
    }

    public int breaks(int row, int sum) {
        return cloth.hasRow(row) && sum >= 0 ? purse.fewestBreaks(cloth, row, sum) : NONE;
    }

    public int missing(int row) {
        return cloth.hasRow(row) ? purse.leastMissing(cloth, row) : NONE;
    }

    public int pays(int row, int other, int sum) {
        if (!areTwoRows(row, other) || sum < 1) {
            return NONE;
        }
        return payment.settle(cloth, row, other, sum);
    }

    public int paysOf(int row, int other, int sum, int column) {
        if (!areTwoRows(row, other) || sum < 1 || !cloth.hasColumn(column)) {
            return FAR_BELOW;
        }
        return payment.settle(cloth, row, other, sum) == CANNOT ? FAR_BELOW : payment.over[column];
    }

    // ---- the log, what was seen

    public int move(int i, int what) {
        if (i < 0 || i >= cloth.moves || what < 0 || what >= MOVE_FIELDS) {
            return NONE;
        }
        return cloth.log[i * MOVE_FIELDS + what];
    }

    public int at(int t, int row, int column) {
        if (t < 0 || t > cloth.moves || !cloth.hasCell(row, column)) {
            return FAR_BELOW;
        }
        inquest.layOut(cloth);
        return inquest.lies[t * CELLS + row * COLUMNS + column];
    }

    public int sumAt(int t) {
        if (t < 0 || t > cloth.moves) {
            return Integer.MIN_VALUE;
        }
        return inquest.sumBehind(cloth, t);
    }

    public int differs() {
        return inquest.cellsApart(cloth);
    }

    public int seen(int k, int what) {
        if (k < 0 || k >= cloth.sights || what < 0 || what > SIGHT_FIELDS) {
            return NONE;
        }
        if (what < SIGHT_FIELDS) {
            return cloth.seen[k * SIGHT_FIELDS + what];
        }
        inquest.layOut(cloth);
        return inquest.lack[k] == 0 ? 1 : 0;
    }

    public int wrong() {
        return inquest.firstWrong(cloth);
    }

    public int slides() {
        inquest.findSlides(cloth);
        return inquest.slidesFound;
    }

    public int slideAt(int i, int what) {
        inquest.findSlides(cloth);
        if (i < 0 || i >= inquest.slidesFound || what < 0 || what > 4) {
            return CANNOT;
        }
        return inquest.tellSlide(cloth, i, what);
    }

    public int leftOut() {
        return inquest.countLeftOut(cloth);
    }

    public int leftOutAt(int i) {
        return i < 0 ? NONE : inquest.findLeftOut(cloth, i);
    }

    public int times() {
        inquest.findSlides(cloth);
        return inquest.slideTimes();
    }

    public int look(int what) {
        inquest.findSlides(cloth);
        if (inquest.slidesFound == 0 || what < 0 || what > 3) {
            return NONE;
        }
        inquest.findBestSight(cloth);
        return inquest.best[what];
    }

    // ---- texts

    public int spell(int i) {
        if (i < NONE) {
            return NONE;
        }
        scribe.writeCloth(cloth);
        return scribe.tell(i);
    }

    public int report(int row, int i) {
        if (!cloth.hasRow(row) || i < NONE) {
            return NONE;
        }
        scribe.writeRow(cloth, row);
        return scribe.tell(i);
    }

    public int count(int what) {
        switch (what) {
            case 0:
                return cloth.columns;
            case 1:
                return cloth.rows;
            case 2:
                return cloth.moves;
            case 3:
                return cloth.sights;
            case 4:
                return past.depth;
            case 5:
                return tape.length;
            case 6:
                return purse.plainRows(cloth);
            case 7:
                return cloth.richestRow();
            default:
                return NONE;
        }
    }

    private void beginAct() {
        past.keep(cloth);
        forgetAnswers();
    }

    /** What was worked out from the cloth as it was no longer holds. */
    private void forgetAnswers() {
        inquest.laid = false;
        inquest.sought = false;
        payment.settled = false;
        scribe.holds = Scribe.NOTHING;
    }

    private boolean areTwoRows(int row, int other) {
        return cloth.hasRow(row) && cloth.hasRow(other) && row != other;
    }

    private boolean makeMove(int kind, int row, int other, int column, int k) {
        if (cloth.moves >= MOVES || !cloth.canMake(effect, kind, row, other, column, k)) {
            return false;
        }
        beginAct();
        cloth.apply(effect);
        cloth.writeMove(kind, row, other, column, k);
        return true;
    }

    private void layParts(int row) {
        for (int c = 0; c < cloth.columns; c++) {
            cloth.cell[row * COLUMNS + c] = purse.part[c];
        }
        cloth.makeAnew();
    }

    /** The bytes that were fed, at most 400. */
    private static final class Tape {
        private final int[] bytes = new int[TAPE];
        private int length;

        private void addWord(int word) {
            for (int shift = 24; shift >= 0 && length < TAPE; shift -= 8) {
                bytes[length] = (word >>> shift) & 255;
                length++;
            }
        }
    }

    /** By how much a move or a slide changes one or two cells; with one cell the second change is 0. */
    private static final class Effect {
        private int cell;
        private int by;
        private int otherCell;
        private int otherBy;

        private void tell(int first, int firstBy, int second, int secondBy) {
            cell = first;
            by = firstBy;
            otherCell = second;
            otherBy = secondBy;
        }

        private void tellSlide(int from, boolean up) {
            tell(from, -1, up ? from + 1 : from - 1, 1);
        }

        private void reverse() {
            by = -by;
            otherBy = -otherBy;
        }

        private int changeOf(int which) {
            return (which == cell ? by : 0) + (which == otherCell ? otherBy : 0);
        }
    }

    /** The whole state that acts change; cells outside the columns and rows that are there are 0. */
    private static final class Cloth {
        private final int[] ratio = new int[COLUMNS];
        private final int[] worth = new int[COLUMNS];
        private final int[] cell = new int[CELLS];
        private final int[] beginning = new int[CELLS];
        private final int[] log = new int[MOVES * MOVE_FIELDS];
        private final int[] seen = new int[SIGHTS * SIGHT_FIELDS];
        private int columns;
        private int rows;
        private int moves;
        private int sights;

        private void copyFrom(Cloth from) {
            System.arraycopy(from.ratio, 0, ratio, 0, COLUMNS);
            System.arraycopy(from.worth, 0, worth, 0, COLUMNS);
            System.arraycopy(from.cell, 0, cell, 0, CELLS);
            System.arraycopy(from.beginning, 0, beginning, 0, CELLS);
            System.arraycopy(from.log, 0, log, 0, from.moves * MOVE_FIELDS);
            System.arraycopy(from.seen, 0, seen, 0, from.sights * SIGHT_FIELDS);
            columns = from.columns;
            rows = from.rows;
            moves = from.moves;
            sights = from.sights;
        }

        private void emptyAll() {
            columns = 0;
            rows = 0;
            for (int i = 0; i < CELLS; i++) {
                cell[i] = 0;
            }
            makeAnew();
        }

        private void makeAnew() {
            System.arraycopy(cell, 0, beginning, 0, CELLS);
            moves = 0;
            sights = 0;
        }

        private boolean hasRow(int r) {
            return r >= 0 && r < rows;
        }

        private boolean hasColumn(int c) {
            return c >= 0 && c < columns;
        }

        private boolean hasCell(int r, int c) {
            return r >= 0 && r < rows && c >= 0 && c < columns;
        }

        private int cellAt(int r, int c) {
            return cell[r * COLUMNS + c];
        }

        private boolean mayAddColumn(int newRatio) {
            if (columns >= COLUMNS) {
                return false;
            }
            return columns == 0 ? newRatio == 1 : newRatio >= 2 && newRatio <= MOST_RATIO;
        }

        private void addColumn(int newRatio) {
            ratio[columns] = newRatio;
            worth[columns] = columns == 0 ? 1 : newRatio * worth[columns - 1];
            columns++;
        }

        private boolean mayAddRow() {
            return columns > 0 && rows < ROWS;
        }

        private void removeRow(int gone) {
            for (int r = gone; r < rows - 1; r++) {
                System.arraycopy(cell, (r + 1) * COLUMNS, cell, r * COLUMNS, COLUMNS);
            }
            emptyRow(rows - 1);
            rows--;
        }

        private void emptyRow(int r) {
            for (int c = 0; c < COLUMNS; c++) {
                cell[r * COLUMNS + c] = 0;
            }
        }

        private int sumOf(int r) {
            int all = 0;
            for (int c = 0; c < columns; c++) {
                all += cell[r * COLUMNS + c] * worth[c];
            }
            return all;
        }

        private int sumOfAll() {
            int all = 0;
            for (int r = 0; r < rows; r++) {
                all += sumOf(r);
            }
            return all;
        }

        private int countersOf(int r) {
            int all = 0;
            for (int c = 0; c < columns; c++) {
                all += cell[r * COLUMNS + c];
            }
            return all;
        }

        private int countersOfAll() {
            int all = 0;
            for (int r = 0; r < rows; r++) {
                all += countersOf(r);
            }
            return all;
        }

        private int countersIn(int c) {
            int all = 0;
            for (int r = 0; r < rows; r++) {
                all += cell[r * COLUMNS + c];
            }
            return all;
        }

        private int richestRow() {
            int best = NONE;
            int most = NONE;
            for (int r = 0; r < rows; r++) {
                int here = sumOf(r);
                if (here > most) {
                    most = here;
                    best = r;
                }
            }
            return best;
        }

        private boolean joinFits(int r, int s) {
            for (int c = 0; c < columns; c++) {
                if (cell[r * COLUMNS + c] + cell[s * COLUMNS + c] > FULL) {
                    return false;
                }
            }
            return true;
        }

        /** Tells the effect of a move; false if its cells are not there or its k is none. */
        private boolean describe(Effect e, int kind, int r, int s, int c, int k) {
            if (!hasCell(r, c)) {
                return false;
            }
            int here = r * COLUMNS + c;
            switch (kind) {
                case PUT:
                    e.tell(here, k, here, 0);
                    return isAmount(k);
                case TAKE:
                    e.tell(here, -k, here, 0);
                    return isAmount(k);
                case CARRY:
                    if (!hasColumn(c + 1)) {
                        return false;
                    }
                    e.tell(here, -ratio[c + 1], here + 1, 1);
                    return true;
                case BREAK:
                    if (c < 1) {
                        return false;
                    }
                    e.tell(here, -1, here - 1, ratio[c]);
                    return true;
                case SHIFT:
                    if (!hasRow(s) || s == r) {
                        return false;
                    }
                    e.tell(here, -k, s * COLUMNS + c, k);
                    return isAmount(k);
                default:
                    return false;
            }
        }

        private boolean isAmount(int k) {
            return k >= 1 && k <= FULL;
        }

        private boolean describeLogged(Effect e, int i) {
            int from = i * MOVE_FIELDS;
            return describe(e, log[from], log[from + 1], log[from + 4], log[from + 2], log[from + 3]);
        }

        private boolean canMake(Effect e, int kind, int r, int s, int c, int k) {
            return describe(e, kind, r, s, c, k) && staysInBounds(e);
        }

        private boolean staysInBounds(Effect e) {
            int first = cell[e.cell] + e.by;
            int second = cell[e.otherCell] + e.otherBy;
            return first >= 0 && first <= FULL && second >= 0 && second <= FULL;
        }

        private void apply(Effect e) {
            cell[e.cell] += e.by;
            cell[e.otherCell] += e.otherBy;
        }

        private void writeMove(int kind, int r, int s, int c, int k) {
            if (moves >= MOVES) {
                return;
            }
            int to = moves * MOVE_FIELDS;
            log[to] = kind;
            log[to + 1] = r;
            log[to + 2] = c;
            log[to + 3] = kind == CARRY || kind == BREAK ? 0 : k;
            log[to + 4] = kind == SHIFT ? s : 0;
            moves++;
        }

        private void addSight(int t, int r, int c, int n) {
            if (sights >= SIGHTS) {
                return;
            }
            int to = sights * SIGHT_FIELDS;
            seen[to] = t;
            seen[to + 1] = r;
            seen[to + 2] = c;
            seen[to + 3] = n;
            sights++;
        }

        private void dropSight(int k) {
            int behind = (sights - 1 - k) * SIGHT_FIELDS;
            System.arraycopy(seen, (k + 1) * SIGHT_FIELDS, seen, k * SIGHT_FIELDS, behind);
            sights--;
        }

        private void dropSightsBehind(int t) {
            for (int k = sights - 1; k >= 0; k--) {
                if (seen[k * SIGHT_FIELDS] > t) {
                    dropSight(k);
                }
            }
        }
    }

    /** The cloth as it was ahead of the latest acts, in a ring. */
    private static final class Past {
        private final Cloth[] kept = new Cloth[ACTS];
        private int next;
        private int depth;

        private Past() {
            for (int i = 0; i < ACTS; i++) {
                kept[i] = new Cloth();
            }
        }

        private void keep(Cloth cloth) {
            kept[next].copyFrom(cloth);
            next = (next + 1) % ACTS;
            if (depth < ACTS) {
                depth++;
            }
        }

        private void giveBack(Cloth cloth) {
            next = (next + ACTS - 1) % ACTS;
            cloth.copyFrom(kept[next]);
            depth--;
        }
    }

    /** Reads its tape as a text into a draft, so that a fault leaves the cloth alone. */
    private static final class Reader {
        private static final int COLUMN_WORD = 5;
        private static final int ROW_WORD = 6;
        private static final int SEEN_WORD = 7;
        private static final int MOST_NUMBERS = 4;

        private final Cloth draft = new Cloth();
        private final Effect effect = new Effect();
        private final int[] number = new int[MOST_NUMBERS];
        private final Tape tape = new Tape();
        private final int[] bytes = tape.bytes;
        private int length;
        private int place;
        private int stage;
        private int fault;

        /** NONE, or the place of the first byte that can't stand there. */
        private int readAll() {
            length = tape.length;
            place = 0;
            stage = 0;
            fault = NONE;
            draft.emptyAll();
            skipBlanks();
            // each line takes one byte at least, so there are never more lines than bytes
            for (int line = 0; line < TAPE && place < length; line++) {
                if (!readLine()) {
                    return fault;
                }
                skipBlanks();
            }
            return NONE;
        }

        private boolean failAt(int where) {
            fault = where;
            return false;
        }

        private boolean readLine() {
            int start = place;
            int word = readWord();
            if (!mayStand(word)) {
                return failAt(start);
            }
            stage = stageOf(word);
            switch (word) {
                case COLUMN_WORD:
                    return readColumn();
                case ROW_WORD:
                    return readRow();
                case SEEN_WORD:
                    return readSeen();
                default:
                    return readMove(start, word);
            }
        }

        private boolean mayStand(int word) {
            if (word == NONE || stageOf(word) < stage) {
                return false;
            }
            switch (word) {
                case COLUMN_WORD:
                    return draft.columns < COLUMNS;
                case ROW_WORD:
                    return draft.mayAddRow();
                case SEEN_WORD:
                    return draft.sights < SIGHTS;
                default:
                    return true;
            }
        }

        private int stageOf(int word) {
            switch (word) {
                case COLUMN_WORD:
                    return 0;
                case ROW_WORD:
                    return 1;
                case SEEN_WORD:
                    return 3;
                default:
                    return 2;
            }
        }

        private boolean readColumn() {
            int most = draft.columns == 0 ? 1 : MOST_RATIO;
            int least = draft.columns == 0 ? 1 : 2;
            if (!readNumber(0, least, most) || !readEnd()) {
                return false;
            }
            draft.addColumn(number[0]);
            return true;
        }

        private boolean readRow() {
            int to = draft.rows * COLUMNS;
            for (int c = 0; c < draft.columns; c++) {
                if (c > 0 && endComesNext()) {
                    break;
                }
                if (!readNumber(0, 0, FULL)) {
                    return false;
                }
                draft.cell[to + c] = number[0];
            }
            if (!readEnd()) {
                return false;
            }
            draft.rows++;
            draft.makeAnew();
            return true;
        }

        private boolean readMove(int start, int kind) {
            int many = kind == SHIFT ? 4 : kind == CARRY || kind == BREAK ? 2 : 3;
            number[2] = 0;
            for (int i = 0; i < many; i++) {
                if (!readNumber(i, 0, FULL)) {
                    return false;
                }
            }
            if (!readEnd()) {
                return false;
            }
            boolean shifted = kind == SHIFT;
            int other = shifted ? number[1] : 0;
            int column = shifted ? number[2] : number[1];
            int k = shifted ? number[3] : number[2];
            if (draft.moves >= MOVES || !draft.canMake(effect, kind, number[0], other, column, k)) {
                return failAt(start);
            }
            draft.apply(effect);
            draft.writeMove(kind, number[0], other, column, k);
            return true;
        }

        private boolean readSeen() {
            boolean whole = readNumber(0, 0, draft.moves) && readNumber(1, 0, draft.rows - 1)
                && readNumber(2, 0, draft.columns - 1) && readNumber(3, 0, FULL) && readEnd();
            if (whole) {
                draft.addSight(number[0], number[1], number[2], number[3]);
            }
            return whole;
        }

        private int readWord() {
            int start = place;
            while (place < length && bytes[place] >= 'a' && bytes[place] <= 'z') {
                place++;
            }
            for (int word = PUT; word <= SEEN_WORD; word++) {
                if (stands(start, spelled(word))) {
                    return word;
                }
            }
            return NONE;
        }

        private boolean stands(int start, String word) {
            if (place - start != word.length()) {
                return false;
            }
            for (int i = 0; i < word.length(); i++) {
                if (bytes[start + i] != word.charAt(i)) {
                    return false;
                }
            }
            return true;
        }

        private static String spelled(int word) {
            switch (word) {
                case COLUMN_WORD:
                    return "column";
                case ROW_WORD:
                    return "row";
                case SEEN_WORD:
                    return "seen";
                default:
                    return moveWord(word);
            }
        }

        private static String moveWord(int kind) {
            switch (kind) {
                case PUT:
                    return "put";
                case TAKE:
                    return "take";
                case CARRY:
                    return "carry";
                case BREAK:
                    return "break";
                default:
                    return "shift";
            }
        }

        /** Reads a number into its slot; it needs a blank ahead, for it follows a word or a number. */
        private boolean readNumber(int slot, int least, int most) {
            int before = place;
            skipBlanks();
            int start = place;
            int value = 0;
            while (place < length && bytes[place] >= '0' && bytes[place] <= '9') {
                // what goes beyond two digits is refused by its length, so it need not be summed up
                value = place - start < 2 ? value * 10 + bytes[place] - '0' : value;
                place++;
            }
            int digits = place - start;
            if (start == before || digits < 1 || digits > 2 || value < least || value > most) {
                return failAt(start);
            }
            number[slot] = value;
            return true;
        }

        private boolean endComesNext() {
            int ahead = blanksEnd();
            return ahead < length && bytes[ahead] == ';';
        }

        private boolean readEnd() {
            skipBlanks();
            if (place >= length || bytes[place] != ';') {
                return failAt(place);
            }
            place++;
            return true;
        }

        private void skipBlanks() {
            place = blanksEnd();
        }

        private int blanksEnd() {
            int ahead = place;
            while (ahead < length && (bytes[ahead] == ' ' || bytes[ahead] == '\n')) {
                ahead++;
            }
            return ahead;
        }
    }

    /** Sums laid plain, taken as a row lies, or behind breaks. */
    private static final class Purse {
        /** What lower columns give to the next one is always below 100 of its counters. */
        private static final int GIVEN = 100;

        private final int[] part = new int[COLUMNS];
        private final int[] lying = new int[COLUMNS];
        private long[] now = new long[GIVEN];
        private long[] then = new long[GIVEN];

        /** Lays a sum into the parts, plain; how many counters that takes. */
        private int splitPlain(Cloth cloth, int sum) {
            int rest = sum;
            int all = 0;
            for (int c = cloth.columns - 1; c >= 0; c--) {
                part[c] = cloth.worth[c] > 0 ? rest / cloth.worth[c] : 0;
                rest -= part[c] * cloth.worth[c];
                all += part[c];
            }
            return all;
        }

        private boolean partsFit(Cloth cloth) {
            for (int c = 0; c < cloth.columns; c++) {
                if (part[c] > FULL) {
                    return false;
                }
            }
            return true;
        }

        private int countParts(Cloth cloth) {
            int all = 0;
            for (int c = 0; c < cloth.columns; c++) {
                all += part[c];
            }
            return all;
        }

        private boolean isPlain(Cloth cloth, int r) {
            for (int c = 0; c < cloth.columns - 1; c++) {
                if (cloth.cell[r * COLUMNS + c] >= cloth.ratio[c + 1]) {
                    return false;
                }
            }
            return true;
        }

        private int plainRows(Cloth cloth) {
            int bits = 0;
            for (int r = 0; r < cloth.rows; r++) {
                bits |= isPlain(cloth, r) ? 1 << r : 0;
            }
            return bits;
        }

        private int carriesOf(Cloth cloth, int r) {
            int all = 0;
            int carried = 0;
            for (int c = 0; c < cloth.columns - 1; c++) {
                int upper = cloth.ratio[c + 1];
                carried = upper > 0 ? (cloth.cell[r * COLUMNS + c] + carried) / upper : 0;
                all += carried;
            }
            return all;
        }

        /** The sums are alike: then what each column has too much must be carried or broken away. */
        private int movesApart(Cloth cloth, int r, int s) {
            int all = 0;
            int carried = 0;
            for (int c = 0; c < cloth.columns - 1; c++) {
                int upper = cloth.ratio[c + 1];
                int tooMuch = cloth.cell[r * COLUMNS + c] - cloth.cell[s * COLUMNS + c] + carried;
                carried = upper > 0 ? tooMuch / upper : 0;
                all += Math.abs(carried);
            }
            return all;
        }

        private void liftRow(Cloth cloth, int r) {
            for (int c = 0; c < cloth.columns; c++) {
                lying[c] = cloth.cell[r * COLUMNS + c];
            }
        }

        /**
         * Takes a sum from what was lifted, into the parts. Each worth divides the next one, so
         * the most of the highest columns is always the fewest, and fails only where all fails.
         */
        private boolean takeFewest(Cloth cloth, int sum) {
            int rest = sum;
            for (int c = cloth.columns - 1; c >= 0; c--) {
                int most = cloth.worth[c] > 0 ? rest / cloth.worth[c] : 0;
                part[c] = Math.min(lying[c], most);
                rest -= part[c] * cloth.worth[c];
            }
            return rest == 0;
        }

        /**
         * No column need be broken twice: then it or the rest would hold enough of the column
         * below to save one break. So all choices of columns broken once are tried.
         */
        private int fewestBreaks(Cloth cloth, int r, int sum) {
            int best = CANNOT;
            int choices = cloth.columns > 0 ? 1 << (cloth.columns - 1) : 0;
            for (int choice = 0; choice < choices; choice++) {
                int many = Integer.bitCount(choice);
                if ((best == CANNOT || many < best) && breakAll(cloth, r, choice) && takeFewest(cloth, sum)) {
                    best = many;
                }
            }
            return best;
        }

        /** Lifts a row and breaks one counter of column c for each bit c - 1 of the choice. */
        private boolean breakAll(Cloth cloth, int r, int choice) {
            liftRow(cloth, r);
            for (int c = cloth.columns - 1; c >= 1; c--) {
                if ((choice >> (c - 1) & 1) == 1) {
                    lying[c]--;
                    lying[c - 1] += cloth.ratio[c];
                }
                if (lying[c] < 0) {
                    return false;
                }
            }
            return true;
        }

        private int leastMissing(Cloth cloth, int r) {
            int reach = 0;
            for (int c = 0; c < cloth.columns && cloth.worth[c] <= reach + 1; c++) {
                reach += cloth.cell[r * COLUMNS + c] * cloth.worth[c];
            }
            return reach + 1;
        }

        /**
         * Counts ways column by column from the lowest: now[g] is in how many ways the lower
         * columns give g more of the next column's worth than what they must.
         */
        private long countWays(Cloth cloth, int r, int sum) {
            clearWays(now);
            now[0] = 1;
            int asked = sum;
            for (int c = 0; c < cloth.columns - 1; c++) {
                clearWays(then);
                int upper = cloth.ratio[c + 1];
                for (int given = 0; given < GIVEN; given++) {
                    if (now[given] != 0) {
                        spreadWays(asked - given, cloth.cell[r * COLUMNS + c], upper, asked, now[given]);
                    }
                }
                long[] old = now;
                now = then;
                then = old;
                asked = upper > 0 ? asked / upper : 0;
            }
            return countTop(asked, cloth.cell[r * COLUMNS + Math.max(0, cloth.columns - 1)]);
        }

        private void clearWays(long[] ways) {
            for (int i = 0; i < GIVEN; i++) {
                ways[i] = 0;
            }
        }

        /** From each number of counters that leaves a multiple of the next column's worth. */
        private void spreadWays(int rest, int most, int upper, int asked, long many) {
            if (upper < 1 || rest < 0) {
                return;
            }
            int last = Math.min(most, rest);
            for (int used = rest % upper; used <= last; used += upper) {
                int given = asked / upper - (rest - used) / upper;
                if (given >= 0 && given < GIVEN) {
                    then[given] += many;
                }
            }
        }

        private long countTop(int asked, int most) {
            long all = 0;
            for (int given = 0; given < GIVEN; given++) {
                if (asked >= given && asked - given <= most) {
                    all += now[given];
                }
            }
            return all;
        }
    }

    /**
     * The fewest counters by which a sum goes from a row to another one. What is left for the
     * columns from c on, in worths of column c, is base[c] and a small shift: for each shift that
     * can come up, cost holds the fewest counters for it.
     */
    private static final class Payment {
        /** Columns below c hold at most 99 each, less than 99 worths of c: shifts stay within this. */
        private static final int SHIFTS = 100;
        private static final int WIDTH = 2 * SHIFTS + 1;

        private final int[] over = new int[COLUMNS];
        private final int[] fewest = new int[COLUMNS];
        private final int[] most = new int[COLUMNS];
        private final int[] base = new int[COLUMNS];
        private final int[] low = new int[COLUMNS];
        private final int[] high = new int[COLUMNS];
        private final int[] cost = new int[COLUMNS * WIDTH];
        private int columns;
        private int payer;
        private int payee;
        private int due;
        private int answer;
        private boolean settled;

        /** How many counters go and come, with over as it goes; CANNOT if there is no way. */
        private int settle(Cloth cloth, int row, int other, int sum) {
            if (!settled || row != payer || other != payee || sum != due) {
                payer = row;
                payee = other;
                due = sum;
                answer = workOut(cloth, row, other, sum);
                settled = true;
            }
            return answer;
        }

        private int workOut(Cloth cloth, int row, int other, int sum) {
            columns = cloth.columns;
            if (columns == 0 || sum > cloth.sumOf(row)) {
                return CANNOT;
            }
            setBounds(cloth, row, other);
            setShifts(cloth, sum);
            for (int c = columns - 1; c >= 0; c--) {
                for (int shift = low[c]; shift <= high[c]; shift++) {
                    cost[c * WIDTH + SHIFTS + shift] = bestCost(cloth, c, base[c] + shift);
                }
            }
            int counters = costOf(0, sum);
            if (counters != CANNOT) {
                follow(cloth, sum);
            }
            return counters;
        }

        private void setBounds(Cloth cloth, int row, int other) {
            for (int c = 0; c < columns; c++) {
                int here = cloth.cell[row * COLUMNS + c];
                int there = cloth.cell[other * COLUMNS + c];
                fewest[c] = Math.max(-there, here - FULL);
                most[c] = Math.min(here, FULL - there);
            }
        }

        private void setShifts(Cloth cloth, int sum) {
            base[0] = sum;
            low[0] = 0;
            high[0] = 0;
            for (int c = 1; c < columns; c++) {
                int ratio = Math.max(2, cloth.ratio[c]);
                base[c] = base[c - 1] / ratio;
                int under = base[c - 1] % ratio;
                int least = -Math.floorDiv(most[c - 1] - low[c - 1] - under, ratio);
                int greatest = Math.floorDiv(under + high[c - 1] - fewest[c - 1], ratio);
                low[c] = Math.max(-SHIFTS, least);
                high[c] = Math.min(SHIFTS, greatest);
            }
        }

        private int bestCost(Cloth cloth, int c, int rest) {
            if (c == columns - 1) {
                return rest >= fewest[c] && rest <= most[c] ? Math.abs(rest) : CANNOT;
            }
            int ratio = Math.max(2, cloth.ratio[c + 1]);
            int best = CANNOT;
            for (int x = firstOver(c, rest, ratio); x <= most[c]; x += ratio) {
                // no later column can make good what x alone costs
                if (best == CANNOT || Math.abs(x) < best) {
                    int all = costWith(c, rest, x, ratio);
                    best = all != CANNOT && (best == CANNOT || all < best) ? all : best;
                }
            }
            return best;
        }

        /** The least that may go over of column c and leaves a multiple of the next column's worth. */
        private int firstOver(int c, int rest, int ratio) {
            return fewest[c] + Math.floorMod(rest - fewest[c], ratio);
        }

        private int costWith(int c, int rest, int x, int ratio) {
            int later = costOf(c + 1, (rest - x) / ratio);
            return later == CANNOT ? CANNOT : later + Math.abs(x);
        }

        private int costOf(int c, int rest) {
            int shift = rest - base[c];
            return shift < low[c] || shift > high[c] ? CANNOT : cost[c * WIDTH + SHIFTS + shift];
        }

        /** Of all ways of least cost takes the one with least over of column 0, then 1, and so on. */
        private void follow(Cloth cloth, int sum) {
            int rest = sum;
            for (int c = 0; c < columns - 1; c++) {
                int ratio = Math.max(2, cloth.ratio[c + 1]);
                int least = costOf(c, rest);
                over[c] = 0;
                for (int x = firstOver(c, rest, ratio); x <= most[c]; x += ratio) {
                    if (costWith(c, rest, x, ratio) == least) {
                        over[c] = x;
                        break;
                    }
                }
                rest = (rest - over[c]) / ratio;
            }
            over[columns - 1] = rest;
        }
    }

    /** What the log says, and what would explain what was seen. */
    private static final class Inquest {
        private static final int TIMES = MOVES + 1;
        private static final int SLIDES = TIMES * ROWS * (2 * COLUMNS - 2);

        private final int[] lies = new int[TIMES * CELLS];
        private final int[] least = new int[TIMES * CELLS];
        private final int[] most = new int[TIMES * CELLS];
        private final int[] strained = new int[TIMES];
        private final int[] lack = new int[SIGHTS];
        private final int[] found = new int[SLIDES];
        private final int[] gone = new int[CELLS];
        private final int[] come = new int[CELLS];
        private final int[] best = new int[4];
        private final Effect effect = new Effect();
        private int sound;
        private int slidesFound;
        private boolean laid;
        private boolean sought;

        /** Lays out all cells by the log behind each number of moves. */
        private void layOut(Cloth cloth) {
            if (laid) {
                return;
            }
            laid = true;
            System.arraycopy(cloth.beginning, 0, lies, 0, CELLS);
            for (int t = 1; t <= cloth.moves; t++) {
                System.arraycopy(lies, (t - 1) * CELLS, lies, t * CELLS, CELLS);
                if (cloth.describeLogged(effect, t - 1)) {
                    lies[t * CELLS + effect.cell] += effect.by;
                    lies[t * CELLS + effect.otherCell] += effect.otherBy;
                }
            }
            layExtremes(cloth);
            findSound(cloth);
            for (int k = 0; k < cloth.sights; k++) {
                int from = k * SIGHT_FIELDS;
                lack[k] = cloth.seen[from + 3] - lies[cloth.seen[from] * CELLS + sightCell(cloth, k)];
            }
        }

        private int sightCell(Cloth cloth, int k) {
            int from = k * SIGHT_FIELDS;
            return cloth.seen[from + 1] * COLUMNS + cloth.seen[from + 2];
        }

        /** The least and the most that each cell has from t moves on, and how many are out of bounds. */
        private void layExtremes(Cloth cloth) {
            for (int t = cloth.moves; t >= 0; t--) {
                strained[t] = 0;
                boolean last = t == cloth.moves;
                int end = t * CELLS + cloth.rows * COLUMNS;
                for (int i = t * CELLS; i < end; i++) {
                    least[i] = last ? lies[i] : Math.min(lies[i], least[i + CELLS]);
                    most[i] = last ? lies[i] : Math.max(lies[i], most[i + CELLS]);
                    strained[t] += isStrained(i) ? 1 : 0;
                }
            }
        }

        private boolean isStrained(int i) {
            return least[i] < 0 || most[i] > FULL;
        }

        /** The last time up to which all moves can be as they stand. */
        private void findSound(Cloth cloth) {
            sound = 0;
            while (sound < cloth.moves && isSound(cloth, sound + 1)) {
                sound++;
            }
        }

        private boolean isSound(Cloth cloth, int t) {
            int end = t * CELLS + cloth.rows * COLUMNS;
            for (int i = t * CELLS; i < end; i++) {
                if (lies[i] < 0 || lies[i] > FULL) {
                    return false;
                }
            }
            return true;
        }

        private int cellsApart(Cloth cloth) {
            layOut(cloth);
            int apart = 0;
            for (int i = 0; i < CELLS; i++) {
                apart += cloth.cell[i] != lies[cloth.moves * CELLS + i] ? 1 : 0;
            }
            return apart;
        }

        private int sumBehind(Cloth cloth, int t) {
            layOut(cloth);
            int all = 0;
            for (int r = 0; r < cloth.rows; r++) {
                for (int c = 0; c < cloth.columns; c++) {
                    all += lies[t * CELLS + r * COLUMNS + c] * cloth.worth[c];
                }
            }
            return all;
        }

        private int firstWrong(Cloth cloth) {
            layOut(cloth);
            for (int k = 0; k < cloth.sights; k++) {
                if (lack[k] != 0) {
                    return k;
                }
            }
            return CANNOT;
        }

        /** Whether all that was seen is so, and all cells stay in bounds, if the effect comes ahead of time t. */
        private boolean explains(Cloth cloth, int t) {
            for (int k = 0; k < cloth.sights; k++) {
                boolean later = cloth.seen[k * SIGHT_FIELDS] >= t;
                if (lack[k] != (later ? effect.changeOf(sightCell(cloth, k)) : 0)) {
                    return false;
                }
            }
            return staysInBounds(t);
        }

        private boolean staysInBounds(int t) {
            int one = t * CELLS + effect.cell;
            int two = t * CELLS + effect.otherCell;
            int strain = strained[t] - (isStrained(one) ? 1 : 0);
            strain -= two != one && isStrained(two) ? 1 : 0;
            return strain == 0 && fits(one, effect.changeOf(effect.cell))
                && fits(two, effect.changeOf(effect.otherCell));
        }

        private boolean fits(int i, int change) {
            return least[i] + change >= 0 && most[i] + change <= FULL;
        }

        private void findSlides(Cloth cloth) {
            layOut(cloth);
            if (sought) {
                return;
            }
            sought = true;
            slidesFound = 0;
            for (int t = 0; t <= sound; t++) {
                for (int r = 0; r < cloth.rows; r++) {
                    for (int c = 0; c < cloth.columns; c++) {
                        trySlide(cloth, t, r * COLUMNS + c, false, c > 0);
                        trySlide(cloth, t, r * COLUMNS + c, true, c + 1 < cloth.columns);
                    }
                }
            }
        }

        private void trySlide(Cloth cloth, int t, int cell, boolean up, boolean hasTarget) {
            if (!hasTarget || slidesFound >= SLIDES) {
                return;
            }
            effect.tellSlide(cell, up);
            if (explains(cloth, t)) {
                found[slidesFound] = (t * CELLS + cell) * 2 + (up ? 1 : 0);
                slidesFound++;
            }
        }

        private int slideTime(int i) {
            return found[i] / (2 * CELLS);
        }

        private int slideCell(int i) {
            return found[i] / 2 % CELLS;
        }

        private boolean slidesUp(int i) {
            return found[i] % 2 == 1;
        }

        private int tellSlide(Cloth cloth, int i, int what) {
            int column = slideCell(i) % COLUMNS;
            boolean up = slidesUp(i);
            switch (what) {
                case 0:
                    return slideTime(i);
                case 1:
                    return slideCell(i) / COLUMNS;
                case 2:
                    return column;
                case 3:
                    return up ? 1 : 0;
                default:
                    int target = up ? column + 1 : column - 1;
                    return cloth.hasColumn(target) ? cloth.worth[target] - cloth.worth[column] : 0;
            }
        }

        private int slideTimes() {
            int bits = 0;
            for (int i = 0; i < slidesFound; i++) {
                bits |= 1 << slideTime(i);
            }
            return bits;
        }

        /** Slides are found in order of time, so each time only adds to what has gone and come. */
        private void findBestSight(Cloth cloth) {
            for (int i = 0; i < CELLS; i++) {
                gone[i] = 0;
                come[i] = 0;
            }
            best[3] = slidesFound + 1;
            int made = 0;
            for (int t = 0; t <= cloth.moves; t++) {
                while (made < slidesFound && slideTime(made) == t) {
                    gone[slideCell(made)]++;
                    effect.tellSlide(slideCell(made), slidesUp(made));
                    come[effect.otherCell]++;
                    made++;
                }
                compareSights(cloth, t);
            }
        }

        private void compareSights(Cloth cloth, int t) {
            for (int r = 0; r < cloth.rows; r++) {
                for (int c = 0; c < cloth.columns; c++) {
                    int fewer = gone[r * COLUMNS + c];
                    int more = come[r * COLUMNS + c];
                    int greatest = Math.max(slidesFound - fewer - more, Math.max(fewer, more));
                    if (greatest < best[3]) {
                        best[0] = t;
                        best[1] = r;
                        best[2] = c;
                        best[3] = greatest;
                    }
                }
            }
        }

        private boolean explainsLeftOut(Cloth cloth, int i) {
            if (i > sound || !cloth.describeLogged(effect, i)) {
                return false;
            }
            effect.reverse();
            return explains(cloth, i + 1);
        }

        private int countLeftOut(Cloth cloth) {
            layOut(cloth);
            int all = 0;
            for (int i = 0; i < cloth.moves; i++) {
                all += explainsLeftOut(cloth, i) ? 1 : 0;
            }
            return all;
        }

        private int findLeftOut(Cloth cloth, int which) {
            layOut(cloth);
            int ahead = 0;
            for (int i = 0; i < cloth.moves; i++) {
                if (explainsLeftOut(cloth, i)) {
                    if (ahead == which) {
                        return i;
                    }
                    ahead++;
                }
            }
            return CANNOT;
        }
    }

    /** Writes texts into one row of bytes and keeps the last one while nothing changes. */
    private static final class Scribe {
        private static final int NOTHING = -2;
        private static final int WHOLE_CLOTH = -1;
        /** The longest text: 59 bytes of columns, 88 of rows, 360 of moves, 180 of what was seen. */
        private static final int LONGEST = 700;

        private final byte[] bytes = new byte[LONGEST];
        private int length;
        private int holds = NOTHING;

        private int tell(int i) {
            if (i < 0) {
                return length;
            }
            return i < length ? bytes[i] : CANNOT;
        }

        private void writeCloth(Cloth cloth) {
            if (holds == WHOLE_CLOTH) {
                return;
            }
            holds = WHOLE_CLOTH;
            length = 0;
            for (int c = 0; c < cloth.columns; c++) {
                addWord("column");
                addNumber(cloth.ratio[c]);
                addByte(';');
            }
            for (int r = 0; r < cloth.rows; r++) {
                addWord("row");
                addNumbers(cloth.beginning, r * COLUMNS, cloth.columns);
            }
            for (int i = 0; i < cloth.moves; i++) {
                writeMove(cloth, i * MOVE_FIELDS);
            }
            for (int k = 0; k < cloth.sights; k++) {
                addWord("seen");
                addNumbers(cloth.seen, k * SIGHT_FIELDS, SIGHT_FIELDS);
            }
        }

        private void writeMove(Cloth cloth, int from) {
            int kind = cloth.log[from];
            addWord(Reader.moveWord(kind));
            addNumber(cloth.log[from + 1]);
            if (kind == SHIFT) {
                addByte(' ');
                addNumber(cloth.log[from + 4]);
            }
            addByte(' ');
            addNumber(cloth.log[from + 2]);
            if (kind != CARRY && kind != BREAK) {
                addByte(' ');
                addNumber(cloth.log[from + 3]);
            }
            addByte(';');
        }

        private void writeRow(Cloth cloth, int r) {
            if (holds == r) {
                return;
            }
            holds = r;
            length = 0;
            for (int c = cloth.columns - 1; c >= 0; c--) {
                int here = cloth.cell[r * COLUMNS + c];
                if (here > 0) {
                    addNumber(here);
                    addByte(' ');
                    addWord("of");
                    addNumber(cloth.worth[c]);
                    addByte(';');
                }
            }
            addWord("sum");
            addNumber(cloth.sumOf(r));
            addByte(';');
        }

        private void addNumbers(int[] from, int first, int many) {
            for (int i = 0; i < many; i++) {
                if (i > 0) {
                    addByte(' ');
                }
                addNumber(from[first + i]);
            }
            addByte(';');
        }

        /** A word always has a number behind it, so its blank comes along. */
        private void addWord(String word) {
            for (int i = 0; i < word.length(); i++) {
                addByte(word.charAt(i));
            }
            addByte(' ');
        }

        private void addNumber(int number) {
            int unit = 1;
            for (int digits = 1; digits < 10 && number / unit >= 10; digits++) {
                unit *= 10;
            }
            for (int left = unit; left > 0; left /= 10) {
                addByte((char) ('0' + number / left % 10));
            }
        }

        private void addByte(char sign) {
            if (length < LONGEST) {
                bytes[length] = (byte) sign;
                length++;
            }
        }
    }
}
