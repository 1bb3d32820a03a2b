import java.util.ArrayDeque;
import java.util.ArrayList;
import java.util.Arrays;
import java.util.Deque;
import java.util.HashMap;
import java.util.HashSet;
import java.util.List;
import java.util.Map;
import java.util.Set;

/**
 * The document once more, as plainly as it can be written, with other means than the class:
 * lists, whole copies, every slide and every left-out move played through from the BEGINNING,
 * every way of paying tried. Slow, and only for tests.
 */
public final class Oracle {
    record Move(int kind, int row, int other, int column, int k) {
    }

    record Sight(int t, int row, int column, int n) {
    }

    record Slide(int t, int row, int column, boolean up) {
    }

    static final class State {
        List<Integer> ratio = new ArrayList<>();
        List<int[]> cloth = new ArrayList<>();
        List<int[]> beginning = new ArrayList<>();
        List<Move> log = new ArrayList<>();
        List<Sight> seen = new ArrayList<>();

        State copy() {
            State s = new State();
            s.ratio = new ArrayList<>(ratio);
            s.cloth = copyRows(cloth);
            s.beginning = copyRows(beginning);
            s.log = new ArrayList<>(log);
            s.seen = new ArrayList<>(seen);
            return s;
        }

        int worth(int c) {
            int w = 1;
            for (int i = 0; i <= c; i++) {
                w *= ratio.get(i);
            }
            return w;
        }

        int columns() {
            return ratio.size();
        }

        boolean has(int r, int c) {
            return r >= 0 && r < cloth.size() && c >= 0 && c < columns();
        }

        void anew() {
            beginning = copyRows(cloth);
            log.clear();
            seen.clear();
        }

        long sum(int[] row) {
            long s = 0;
            for (int c = 0; c < columns(); c++) {
                s += (long) row[c] * worth(c);
            }
            return s;
        }

        /** Makes a move on rows, whatever comes out; false if its cells are not there. */
        boolean make(List<int[]> rows, Move m, int sign) {
            if (!has(m.row, m.column)) {
                return false;
            }
            int[] row = rows.get(m.row);
            int c = m.column;
            boolean amount = m.k >= 1 && m.k <= 99;
            if (m.kind == 0 && amount) {
                row[c] += sign * m.k;
            } else if (m.kind == 1 && amount) {
                row[c] -= sign * m.k;
            } else if (m.kind == 2 && c + 1 < columns()) {
                row[c] -= sign * ratio.get(c + 1);
                row[c + 1] += sign;
            } else if (m.kind == 3 && c >= 1) {
                row[c] -= sign;
                row[c - 1] += sign * ratio.get(c);
            } else if (m.kind == 4 && amount && m.other >= 0 && m.other < rows.size() && m.other != m.row) {
                row[c] -= sign * m.k;
                rows.get(m.other)[c] += sign * m.k;
            } else {
                return false;
            }
            return true;
        }

        /** Makes a move if it can be; else the rows stay as they are. */
        boolean makeIfCanBe(List<int[]> rows, Move m, int sign) {
            List<int[]> after = copyRows(rows);
            if (!make(after, m, sign) || !inBounds(after)) {
                return false;
            }
            for (int r = 0; r < rows.size(); r++) {
                System.arraycopy(after.get(r), 0, rows.get(r), 0, after.get(r).length);
            }
            return true;
        }

        boolean slideIfCanBe(List<int[]> rows, int r, int c, boolean up) {
            int to = up ? c + 1 : c - 1;
            if (!has(r, c) || !has(r, to) || rows.get(r)[c] < 1 || rows.get(r)[to] > 98) {
                return false;
            }
            rows.get(r)[c]--;
            rows.get(r)[to]++;
            return true;
        }

        List<int[]> byLog(int t) {
            List<int[]> rows = copyRows(beginning);
            for (int i = 0; i < t; i++) {
                make(rows, log.get(i), 1);
            }
            return rows;
        }

        boolean right(Sight s) {
            return byLog(s.t).get(s.row)[s.column] == s.n;
        }

        boolean seenAreSo(List<List<int[]>> behind) {
            for (Sight s : seen) {
                if (behind.get(s.t).get(s.row)[s.column] != s.n) {
                    return false;
                }
            }
            return true;
        }

        /** The cloth behind 0, 1 .. moves with a slide in between; null if it can't be so. */
        List<List<int[]>> withSlide(Slide slide) {
            List<List<int[]>> behind = new ArrayList<>();
            List<int[]> rows = copyRows(beginning);
            for (int t = 0; t <= log.size(); t++) {
                if (t > 0 && !makeIfCanBe(rows, log.get(t - 1), 1)) {
                    return null;
                }
                if (t == slide.t && !slideIfCanBe(rows, slide.row, slide.column, slide.up)) {
                    return null;
                }
                behind.add(copyRows(rows));
            }
            return behind;
        }

        List<List<int[]>> without(int left) {
            List<List<int[]>> behind = new ArrayList<>();
            List<int[]> rows = copyRows(beginning);
            behind.add(copyRows(rows));
            for (int i = 0; i < log.size(); i++) {
                if (i != left && !makeIfCanBe(rows, log.get(i), 1)) {
                    return null;
                }
                behind.add(copyRows(rows));
            }
            return behind;
        }

        List<Slide> explaining() {
            List<Slide> found = new ArrayList<>();
            for (int t = 0; t <= log.size(); t++) {
                for (int r = 0; r < cloth.size(); r++) {
                    for (int c = 0; c < columns(); c++) {
                        for (boolean up : new boolean[] {false, true}) {
                            Slide s = new Slide(t, r, c, up);
                            List<List<int[]>> behind = withSlide(s);
                            if (behind != null && seenAreSo(behind)) {
                                found.add(s);
                            }
                        }
                    }
                }
            }
            return found;
        }

        List<Integer> explainingLeftOut() {
            List<Integer> found = new ArrayList<>();
            for (int i = 0; i < log.size(); i++) {
                List<List<int[]>> behind = without(i);
                if (behind != null && seenAreSo(behind)) {
                    found.add(i);
                }
            }
            return found;
        }

        int[] plain(long sum) {
            int[] row = new int[columns()];
            for (int c = columns() - 1; c >= 0; c--) {
                row[c] = (int) (sum / worth(c));
                sum %= worth(c);
            }
            return row;
        }
    }

    static List<int[]> copyRows(List<int[]> rows) {
        List<int[]> all = new ArrayList<>();
        for (int[] row : rows) {
            all.add(row.clone());
        }
        return all;
    }

    static boolean inBounds(List<int[]> rows) {
        for (int[] row : rows) {
            for (int n : row) {
                if (n < 0 || n > 99) {
                    return false;
                }
            }
        }
        return true;
    }

    State now = new State();
    final Deque<State> past = new ArrayDeque<>();
    final StringBuilder tape = new StringBuilder();

    private void act(State next) {
        past.addLast(now);
        if (past.size() > 12) {
            past.removeFirst();
        }
        now = next;
    }

    private boolean hasRow(int r) {
        return r >= 0 && r < now.cloth.size();
    }

    private boolean isEmpty(int r) {
        return Arrays.stream(now.cloth.get(r)).sum() == 0;
    }

    public int feed(int a, int b, int c, int d, int e) {
        if (tape.length() > 380) {
            return -1;
        }
        for (int word : new int[] {a, b, c, d, e}) {
            for (byte one : java.nio.ByteBuffer.allocate(4).putInt(word).array()) {
                tape.append((char) (one & 255));
            }
        }
        return tape.length();
    }

    public int back(int n) {
        if (n < 0 || n > tape.length()) {
            return -1;
        }
        tape.setLength(tape.length() - n);
        return tape.length();
    }

    public int text() {
        OracleText reader = new OracleText(tape.toString());
        tape.setLength(0);
        State read = reader.read();
        if (read == null) {
            return -4 - reader.fault;
        }
        now = read;
        past.clear();
        return now.cloth.size();
    }

    public int column(int ratio) {
        int have = now.columns();
        boolean right = have == 0 ? ratio == 1 : ratio >= 2 && ratio <= 20;
        if (!right || have == 6) {
            return -1;
        }
        State s = now.copy();
        s.ratio.add(ratio);
        s.cloth.replaceAll(row -> Arrays.copyOf(row, have + 1));
        s.anew();
        act(s);
        return have;
    }

    public int row() {
        if (now.cloth.size() == 4 || now.columns() == 0) {
            return -1;
        }
        State s = now.copy();
        s.cloth.add(new int[s.columns()]);
        s.anew();
        act(s);
        return s.cloth.size() - 1;
    }

    public int drop(int row) {
        if (!hasRow(row)) {
            return -1;
        }
        State s = now.copy();
        int[] gone = s.cloth.remove(row);
        s.anew();
        act(s);
        return (int) s.sum(gone);
    }

    private boolean move(Move m) {
        State s = now.copy();
        if (s.log.size() >= 24 || !s.makeIfCanBe(s.cloth, m, 1)) {
            return false;
        }
        s.log.add(m);
        act(s);
        return true;
    }

    public int put(boolean taken, int row, int column, int k) {
        return move(new Move(taken ? 1 : 0, row, 0, column, k)) ? now.cloth.get(row)[column] : -1;
    }

    public int carry(boolean broken, int row, int column) {
        return move(new Move(broken ? 3 : 2, row, 0, column, 0)) ? now.cloth.get(row)[column] : -1;
    }

    public int shift(int row, int other, int column, int k) {
        return move(new Move(4, row, other, column, k)) ? now.cloth.get(other)[column] : -1;
    }

    public int strike() {
        if (now.log.isEmpty()) {
            return -1;
        }
        State s = now.copy();
        Move last = s.log.remove(s.log.size() - 1);
        if (!s.makeIfCanBe(s.cloth, last, -1)) {
            return -2;
        }
        s.seen.removeIf(sight -> sight.t > s.log.size());
        act(s);
        return s.log.size();
    }

    public int slide(int row, int column, boolean up) {
        State s = now.copy();
        if (!s.slideIfCanBe(s.cloth, row, column, up)) {
            return 0;
        }
        int change = (int) (s.sum(s.cloth.get(row)) - now.sum(now.cloth.get(row)));
        act(s);
        return change;
    }

    private boolean relay(int row, int[] lying) {
        State s = now.copy();
        s.cloth.set(row, lying);
        if (!inBounds(s.cloth)) {
            return false;
        }
        s.anew();
        act(s);
        return true;
    }

    public int plain(int row) {
        if (!hasRow(row)) {
            return -1;
        }
        int[] before = now.cloth.get(row);
        int[] after = now.plain(now.sum(before));
        if (Arrays.equals(before, after) || !relay(row, after)) {
            return -1;
        }
        return Arrays.stream(before).sum() - Arrays.stream(after).sum();
    }

    public int join(int row, int other) {
        if (!hasRow(row) || !hasRow(other) || row == other || isEmpty(row)) {
            return -1;
        }
        State s = now.copy();
        for (int c = 0; c < s.columns(); c++) {
            s.cloth.get(other)[c] += s.cloth.get(row)[c];
            s.cloth.get(row)[c] = 0;
        }
        if (!inBounds(s.cloth)) {
            return -1;
        }
        s.anew();
        act(s);
        return (int) s.sum(s.cloth.get(other));
    }

    public int doubled(int row) {
        if (!hasRow(row) || isEmpty(row)) {
            return -1;
        }
        int[] twice = Arrays.stream(now.cloth.get(row)).map(n -> 2 * n).toArray();
        return relay(row, twice) ? (int) now.sum(twice) : -1;
    }

    public int halve(int row) {
        if (!hasRow(row) || isEmpty(row)) {
            return -1;
        }
        long whole = now.sum(now.cloth.get(row));
        return relay(row, now.plain(whole / 2)) ? (int) (whole % 2) : -1;
    }

    public int pay(int row, int other, int sum) {
        int many = pays(row, other, sum);
        if (many < 0) {
            return many;
        }
        int[] over = way(row, other, sum);
        State s = now.copy();
        for (int c = 0; c < s.columns(); c++) {
            s.cloth.get(row)[c] -= over[c];
            s.cloth.get(other)[c] += over[c];
        }
        s.anew();
        act(s);
        return many;
    }

    public int clear(int row) {
        if (!hasRow(row) || isEmpty(row)) {
            return -1;
        }
        int was = (int) now.sum(now.cloth.get(row));
        relay(row, new int[now.columns()]);
        return was;
    }

    public int start() {
        if (now.log.isEmpty() && now.seen.isEmpty() && differs() == 0) {
            return -1;
        }
        int had = now.log.size();
        State s = now.copy();
        s.anew();
        act(s);
        return had;
    }

    public int see(int t, int row, int column, int n) {
        if (t < 0 || t > now.log.size() || !now.has(row, column) || n < 0 || n > 99 || now.seen.size() == 12) {
            return -1;
        }
        State s = now.copy();
        s.seen.add(new Sight(t, row, column, n));
        act(s);
        return s.seen.size();
    }

    public int unsee(int k) {
        if (k < 0 || k >= now.seen.size()) {
            return -1;
        }
        State s = now.copy();
        s.seen.remove(k);
        act(s);
        return s.seen.size();
    }

    public int sieve() {
        State s = now.copy();
        s.seen.removeIf(sight -> !s.right(sight));
        int went = now.seen.size() - s.seen.size();
        if (went == 0) {
            return -1;
        }
        act(s);
        return went;
    }

    public int undo() {
        if (past.isEmpty()) {
            return -1;
        }
        now = past.removeLast();
        return past.size();
    }

    public int of(int row, int column) {
        return now.has(row, column) ? now.cloth.get(row)[column] : -1;
    }

    public int sum(int row) {
        if (row == -1) {
            return (int) now.cloth.stream().mapToLong(now::sum).sum();
        }
        return hasRow(row) ? (int) now.sum(now.cloth.get(row)) : -2;
    }

    public int counters(int row) {
        if (row == -1) {
            return now.cloth.stream().mapToInt(r -> Arrays.stream(r).sum()).sum();
        }
        return hasRow(row) ? Arrays.stream(now.cloth.get(row)).sum() : -2;
    }

    public int worth(int column, int what) {
        if (column < 0 || column >= now.columns() || what < 0 || what > 2) {
            return -1;
        }
        if (what == 2) {
            return now.cloth.stream().mapToInt(r -> r[column]).sum();
        }
        return what == 0 ? now.ratio.get(column) : now.worth(column);
    }

    public int plainOf(int sum, int column) {
        if (sum < 0 || now.columns() == 0 || column < -1 || column >= now.columns()) {
            return -2;
        }
        int[] row = now.plain(sum);
        return column == -1 ? Arrays.stream(row).sum() : row[column];
    }

    public int carries(int row) {
        if (!hasRow(row)) {
            return -1;
        }
        int[] r = now.cloth.get(row).clone();
        int many = 0;
        for (boolean more = true; more;) {
            more = false;
            for (int c = 0; c + 1 < now.columns(); c++) {
                if (r[c] >= now.ratio.get(c + 1)) {
                    r[c] -= now.ratio.get(c + 1);
                    r[c + 1]++;
                    many++;
                    more = true;
                }
            }
        }
        return many;
    }

    public int can(int kind, int row, int other, int column, int k) {
        return now.makeIfCanBe(copyRows(now.cloth), new Move(kind, row, other, column, k), 1) ? 1 : 0;
    }

    public int compare(int row, int other) {
        return hasRow(row) && hasRow(other)
            ? Long.compare(now.sum(now.cloth.get(row)), now.sum(now.cloth.get(other))) : -2;
    }

    public int apart(int row, int other) {
        if (!hasRow(row) || !hasRow(other)) {
            return -1;
        }
        int[] r = now.cloth.get(row).clone();
        int[] s = now.cloth.get(other);
        int many = 0;
        for (int c = 0; c + 1 < now.columns(); c++) {
            while (r[c] - s[c] >= now.ratio.get(c + 1)) {
                r[c] -= now.ratio.get(c + 1);
                r[c + 1]++;
                many++;
            }
            while (s[c] - r[c] >= now.ratio.get(c + 1)) {
                r[c] += now.ratio.get(c + 1);
                r[c + 1]--;
                many++;
            }
        }
        return Arrays.equals(r, s) ? many : -2;
    }

    public int fullest() {
        int best = -1;
        for (int r = 0; r < now.cloth.size(); r++) {
            for (int c = 0; c < now.columns(); c++) {
                if (best < 0 || of(r, c) > of(best / 10, best % 10)) {
                    best = 10 * r + c;
                }
            }
        }
        return best;
    }

    public long ways(int row, int sum) {
        return hasRow(row) && sum >= 0 ? ways(now.cloth.get(row), now.columns() - 1, sum, new HashMap<>()) : -1;
    }

    private long ways(int[] row, int c, long rest, Map<Long, Long> known) {
        if (rest < 0) {
            return 0;
        }
        if (c < 0) {
            return rest == 0 ? 1 : 0;
        }
        long reach = 0;
        for (int i = 0; i <= c; i++) {
            reach += (long) row[i] * now.worth(i);
        }
        if (rest > reach) {
            return 0;
        }
        Long had = known.get(rest * 8 + c);
        if (had != null) {
            return had;
        }
        long all = 0;
        for (int n = 0; n <= row[c]; n++) {
            all += ways(row, c - 1, rest - (long) n * now.worth(c), known);
        }
        known.put(rest * 8 + c, all);
        return all;
    }

    /** The fewest counters, by trying every number of every column; null if it can't be. */
    private int[] fewest(int[] row, int c, long rest, Map<Long, int[]> known) {
        if (c < 0) {
            return rest == 0 ? new int[now.columns()] : null;
        }
        if (rest > now.sum(Arrays.copyOf(Arrays.copyOf(row, c + 1), row.length))) {
            return null;
        }
        long key = rest * 8 + c;
        if (known.containsKey(key)) {
            return known.get(key);
        }
        int[] best = null;
        for (int n = 0; n <= row[c] && (long) n * now.worth(c) <= rest; n++) {
            int[] lower = fewest(row, c - 1, rest - (long) n * now.worth(c), known);
            if (lower != null) {
                int[] way = lower.clone();
                way[c] = n;
                if (best == null || Arrays.stream(way).sum() < Arrays.stream(best).sum()) {
                    best = way;
                }
            }
        }
        known.put(key, best);
        return best;
    }

    public int taken(int row, int sum, int column) {
        if (!hasRow(row) || column < -1 || column >= now.columns() || sum < 0) {
            return -3;
        }
        if (sum > now.sum(now.cloth.get(row))) {
            return -2;
        }
        int[] way = fewest(now.cloth.get(row), now.columns() - 1, sum, new HashMap<>());
        if (way == null) {
            return -2;
        }
        return column == -1 ? Arrays.stream(way).sum() : way[column];
    }

    public int breaks(int row, int sum) {
        if (!hasRow(row) || sum < 0) {
            return -1;
        }
        if (sum > now.sum(now.cloth.get(row))) {
            return -2;
        }
        List<int[]> reached = new ArrayList<>();
        reached.add(now.cloth.get(row));
        Set<String> known = new HashSet<>();
        for (int many = 0; !reached.isEmpty(); many++) {
            List<int[]> next = new ArrayList<>();
            for (int[] lying : reached) {
                if (ways(lying, now.columns() - 1, sum, new HashMap<>()) > 0) {
                    return many;
                }
                for (int c = 1; c < now.columns(); c++) {
                    int[] broken = lying.clone();
                    broken[c]--;
                    broken[c - 1] += now.ratio.get(c);
                    if (broken[c] >= 0 && known.add(Arrays.toString(broken))) {
                        next.add(broken);
                    }
                }
            }
            reached = next;
        }
        return -2;
    }

    public int missing(int row) {
        if (!hasRow(row)) {
            return -1;
        }
        for (int sum = 1;; sum++) {
            if (ways(row, sum) == 0) {
                return sum;
            }
        }
    }

    private int[] way(int row, int other, int sum) {
        return way(now.cloth.get(row), now.cloth.get(other), now.columns() - 1, sum, new HashMap<>());
    }

    private int[] way(int[] from, int[] to, int c, long rest, Map<Long, int[]> known) {
        if (c < 0) {
            return rest == 0 ? new int[now.columns()] : null;
        }
        long key = (rest + (1L << 40)) * 8 + c;
        if (known.containsKey(key)) {
            return known.get(key);
        }
        long reach = 0;
        for (int i = 0; i < c; i++) {
            reach += 99L * now.worth(i);
        }
        int[] best = null;
        for (int x = -99; x <= 99; x++) {
            boolean may = from[c] - x >= 0 && from[c] - x <= 99 && to[c] + x >= 0 && to[c] + x <= 99;
            long left = rest - (long) x * now.worth(c);
            if (may && Math.abs(left) <= reach) {
                int[] lower = way(from, to, c - 1, left, known);
                if (lower != null) {
                    int[] way = lower.clone();
                    way[c] = x;
                    best = better(way, best) ? way : best;
                }
            }
        }
        known.put(key, best);
        return best;
    }

    private static boolean better(int[] way, int[] than) {
        if (than == null) {
            return true;
        }
        int many = Arrays.stream(way).map(Math::abs).sum();
        int others = Arrays.stream(than).map(Math::abs).sum();
        return many != others ? many < others : Arrays.compare(way, than) < 0;
    }

    public int pays(int row, int other, int sum) {
        if (!hasRow(row) || !hasRow(other) || row == other || sum < 1) {
            return -1;
        }
        int[] way = way(row, other, sum);
        return way == null ? -2 : Arrays.stream(way).map(Math::abs).sum();
    }

    public int paysOf(int row, int other, int sum, int column) {
        if (pays(row, other, sum) < 0 || column < 0 || column >= now.columns()) {
            return -1000;
        }
        return way(row, other, sum)[column];
    }

    public int move(int i, int what) {
        if (i < 0 || i >= now.log.size() || what < 0 || what > 4) {
            return -1;
        }
        Move m = now.log.get(i);
        return new int[] {m.kind, m.row, m.column, m.k, m.other}[what];
    }

    public int at(int t, int row, int column) {
        return t >= 0 && t <= now.log.size() && now.has(row, column) ? now.byLog(t).get(row)[column] : -1000;
    }

    public int sumAt(int t) {
        return t >= 0 && t <= now.log.size()
            ? (int) now.byLog(t).stream().mapToLong(now::sum).sum() : Integer.MIN_VALUE;
    }

    public int differs() {
        List<int[]> told = now.byLog(now.log.size());
        int many = 0;
        for (int r = 0; r < told.size(); r++) {
            for (int c = 0; c < now.columns(); c++) {
                many += told.get(r)[c] != of(r, c) ? 1 : 0;
            }
        }
        return many;
    }

    public int seen(int k, int what) {
        if (k < 0 || k >= now.seen.size() || what < 0 || what > 4) {
            return -1;
        }
        Sight s = now.seen.get(k);
        return new int[] {s.t, s.row, s.column, s.n, now.right(s) ? 1 : 0}[what];
    }

    public int wrong() {
        for (Sight s : now.seen) {
            if (!now.right(s)) {
                return now.seen.indexOf(s);
            }
        }
        return -2;
    }

    public int slides() {
        return now.explaining().size();
    }

    public int slideAt(int i, int what) {
        List<Slide> found = now.explaining();
        if (i < 0 || i >= found.size() || what < 0 || what > 4) {
            return -2;
        }
        Slide s = found.get(i);
        int change = now.worth(s.up ? s.column + 1 : s.column - 1) - now.worth(s.column);
        return new int[] {s.t, s.row, s.column, s.up ? 1 : 0, change}[what];
    }

    public int leftOut() {
        return now.explainingLeftOut().size();
    }

    public int leftOutAt(int i) {
        List<Integer> found = now.explainingLeftOut();
        return i < 0 ? -1 : i < found.size() ? found.get(i) : -2;
    }

    public int times() {
        int bits = 0;
        for (Slide s : now.explaining()) {
            bits |= 1 << s.t;
        }
        return bits;
    }

    public int look(int what) {
        List<List<List<int[]>>> all = new ArrayList<>();
        for (Slide s : now.explaining()) {
            all.add(now.withSlide(s));
        }
        if (all.isEmpty() || what < 0 || what > 3) {
            return -1;
        }
        int[] best = null;
        for (int t = 0; t <= now.log.size(); t++) {
            for (int r = 0; r < now.cloth.size(); r++) {
                for (int c = 0; c < now.columns(); c++) {
                    Map<Integer, Integer> alike = new HashMap<>();
                    for (List<List<int[]>> behind : all) {
                        alike.merge(behind.get(t).get(r)[c], 1, Integer::sum);
                    }
                    int most = alike.values().stream().mapToInt(n -> n).max().getAsInt();
                    if (best == null || most < best[3]) {
                        best = new int[] {t, r, c, most};
                    }
                }
            }
        }
        return best[what];
    }

    private static int byteOf(String text, int i) {
        return i == -1 ? text.length() : i < text.length() ? text.charAt(i) : -2;
    }

    String spelled() {
        StringBuilder all = new StringBuilder();
        now.ratio.forEach(n -> all.append("column ").append(n).append(';'));
        for (int[] row : now.beginning) {
            all.append("row");
            for (int n : row) {
                all.append(' ').append(n);
            }
            all.append(';');
        }
        for (Move m : now.log) {
            all.append(switch (m.kind) {
                case 0 -> "put " + m.row + " " + m.column + " " + m.k;
                case 1 -> "take " + m.row + " " + m.column + " " + m.k;
                case 2 -> "carry " + m.row + " " + m.column;
                case 3 -> "break " + m.row + " " + m.column;
                default -> "shift " + m.row + " " + m.other + " " + m.column + " " + m.k;
            }).append(';');
        }
        for (Sight s : now.seen) {
            all.append("seen " + s.t + " " + s.row + " " + s.column + " " + s.n + ";");
        }
        return all.toString();
    }

    public int spell(int i) {
        return i < -1 ? -1 : byteOf(spelled(), i);
    }

    public int report(int row, int i) {
        if (!hasRow(row) || i < -1) {
            return -1;
        }
        StringBuilder all = new StringBuilder();
        for (int c = now.columns() - 1; c >= 0; c--) {
            if (of(row, c) > 0) {
                all.append(of(row, c) + " of " + now.worth(c) + ";");
            }
        }
        return byteOf(all.append("sum " + sum(row) + ";").toString(), i);
    }

    public int count(int what) {
        int bits = 0;
        int richest = -1;
        for (int r = 0; r < now.cloth.size(); r++) {
            bits |= Arrays.equals(now.cloth.get(r), now.plain(sum(r))) ? 1 << r : 0;
            richest = richest < 0 || sum(r) > sum(richest) ? r : richest;
        }
        int[] all = {now.columns(), now.cloth.size(), now.log.size(), now.seen.size(), past.size(),
            tape.length(), bits, richest};
        return what >= 0 && what < all.length ? all[what] : -1;
    }
}
