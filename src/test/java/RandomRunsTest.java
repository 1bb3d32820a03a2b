import java.lang.reflect.Method;
import java.util.ArrayList;
import java.util.Arrays;
import java.util.HashMap;
import java.util.List;
import java.util.Map;
import java.util.Random;

/** The same runs of calls, the same each time, on the class and on the Oracle; every answer is compared. */
public final class RandomRunsTest {
    private static final int RUNS = Integer.getInteger("runs", 900);
    private static final int CALLS = 110;
    private static final int[] EDGES = {Integer.MIN_VALUE, Integer.MAX_VALUE, -1000, -3, -2, -1, 100, 1000};
    private static final String[] ACTS = {"put", "put", "put", "put", "carry", "carry", "carry", "shift", "shift",
        "strike", "slide", "slide", "toTheEdge", "toTheEdge", "see", "see", "see", "see", "unsee", "sieve", "undo", "undo"};
    private static final String[] ROW_ACTS = {"column", "row", "row", "drop", "plain", "join", "doubled", "halve",
        "pay", "clear", "start"};
    private static final String[] ASKED = {"of", "sum", "counters", "worth", "plainOf", "carries", "can", "can",
        "compare", "apart", "fullest", "ways", "taken", "breaks", "missing", "pays", "paysOf", "paysOf", "move",
        "at", "sumAt", "differs", "seen", "wrong", "slides", "slideAt", "slideAt", "leftOut", "leftOutAt", "times",
        "look", "look", "spell", "spell", "report", "report", "count", "count", "count"};

    private final Check check = new Check();
    private final Map<String, Method> ours = new HashMap<>();
    private final Map<String, Method> theirs = new HashMap<>();
    private Random random;
    private int run;
    private ExchequerCloth cloth;
    private Oracle oracle;
    private Oracle.Slide secret;

    public static void main(String[] args) throws Exception {
        RandomRunsTest test = new RandomRunsTest();
        for (Method m : ExchequerCloth.class.getDeclaredMethods()) {
            if (java.lang.reflect.Modifier.isPublic(m.getModifiers())) {
                test.ours.put(m.getName(), m);
                test.theirs.put(m.getName(), Oracle.class.getDeclaredMethod(m.getName(), m.getParameterTypes()));
            }
        }
        int first = Integer.getInteger("first", 0);
        for (int run = first; run < first + RUNS; run++) {
            test.play(run);
        }
        test.check.finish("RandomRunsTest");
    }

    private void play(int number) throws Exception {
        run = number;
        random = new Random(7919L * number + 17);
        cloth = new ExchequerCloth();
        oracle = new Oracle();
        secret = null;
        if (random.nextInt(5) > 0) {
            tell(randomText());
        } else {
            build();
        }
        int rowActs = random.nextInt(3) == 0 ? 12 : 2;
        for (int i = 0; i < CALLS; i++) {
            int die = random.nextInt(100);
            if (die < 40) {
                step(one(ACTS));
            } else if (die < 40 + rowActs) {
                step(one(ROW_ACTS));
            } else if (die < 54 && random.nextInt(8) == 0) {
                tell(random.nextBoolean() ? oracle.spelled() : marred(randomText()));
            } else {
                step(one(ASKED));
            }
        }
        askAll();
    }

    /** What shows the whole state, so that nothing that went wrong stays hidden. */
    private void askAll() throws Exception {
        for (int i = 0; i < 9; i++) {
            same("count", i);
        }
        int length = oracle.spell(-1);
        for (int i = -2; i <= length; i++) {
            same("spell", i);
        }
        for (int r = -1; r < 5; r++) {
            for (int c = -1; c < 7; c++) {
                same("of", r, c);
            }
        }
        for (int i = 0; i < 13; i++) {
            same("undo");
            same("slides");
            same("differs");
        }
    }

    private void build() throws Exception {
        same("column", 1);
        int columns = random.nextInt(5);
        for (int c = 0; c < columns; c++) {
            same("column", 2 + random.nextInt(random.nextBoolean() ? 3 : 19));
        }
        int rows = 1 + random.nextInt(4);
        for (int r = 0; r < rows; r++) {
            same("row");
        }
    }

    private void tell(String text) throws Exception {
        for (int[] words : Told.wordsOf(text)) {
            same("feed", words[0], words[1], words[2], words[3], words[4]);
        }
        same("back", Told.fillOf(text));
        if (random.nextInt(10) == 0) {
            same("back", random.nextInt(30) - 2);
        }
        same("count", 5);
        same("text");
        secret = null;
    }

    private String gap() {
        return random.nextInt(12) == 0 ? new String[] {"  ", "\n", " \n ", " "}[random.nextInt(4)] : " ";
    }

    private String maybe() {
        return random.nextInt(10) == 0 ? gap() : "";
    }

    private String number(int n) {
        return (n < 10 && random.nextInt(10) == 0 ? "0" : "") + n;
    }

    private String line(String word, int... numbers) {
        StringBuilder all = new StringBuilder(maybe() + word);
        for (int n : numbers) {
            all.append(gap()).append(number(n));
        }
        return all.append(maybe()).append(';').append(maybe()).toString();
    }

    private int lying() {
        switch (random.nextInt(5)) {
            case 0:
                return 0;
            case 1:
                return 90 + random.nextInt(10);
            case 2:
                return random.nextInt(100);
            default:
                return random.nextInt(8);
        }
    }

    private String randomText() {
        StringBuilder all = new StringBuilder(line("column", 1));
        int columns = 1 + random.nextInt(random.nextInt(3) == 0 ? 7 : 4);
        int style = random.nextInt(4);
        for (int c = 1; c < columns; c++) {
            int ratio = style == 0 ? 2 : style == 1 ? 20 : style == 2 ? 2 + random.nextInt(4) : 2 + random.nextInt(19);
            all.append(line("column", ratio));
        }
        int rows = 1 + random.nextInt(random.nextInt(15) == 0 ? 5 : 4);
        List<int[]> lie = new ArrayList<>();
        for (int r = 0; r < rows; r++) {
            int[] row = new int[random.nextInt(3) == 0 ? 1 + random.nextInt(columns) : columns];
            Arrays.setAll(row, i -> lying());
            lie.add(row);
            all.append(line("row", row));
        }
        return withMoves(all.toString());
    }

    private String withMoves(String cloth) {
        Oracle.State state = new OracleText(cloth).read();
        if (state == null) {
            return cloth;
        }
        StringBuilder all = new StringBuilder(cloth);
        int moves = random.nextInt(random.nextInt(4) == 0 ? 27 : 8);
        for (int tries = 0; tries < 200 && state.log.size() < moves; tries++) {
            Oracle.Move m = new Oracle.Move(random.nextInt(5), row(state), row(state), column(state), amount());
            if (state.makeIfCanBe(state.cloth, m, 1)) {
                state.log.add(m);
                all.append(moveLine(m));
            }
        }
        return withSights(all, state);
    }

    private String moveLine(Oracle.Move m) {
        switch (m.kind()) {
            case 0:
                return line("put", m.row(), m.column(), m.k());
            case 1:
                return line("take", m.row(), m.column(), m.k());
            case 2:
                return line("carry", m.row(), m.column());
            case 3:
                return line("break", m.row(), m.column());
            default:
                return line("shift", m.row(), m.other(), m.column(), m.k());
        }
    }

    /** Sights of one secret slide, so that something explains them. */
    private String withSights(StringBuilder all, Oracle.State state) {
        List<Oracle.Slide> slides = state.explaining();
        List<List<int[]>> behind = slides.isEmpty() || random.nextInt(4) == 0 ? state.without(-1)
            : state.withSlide(slides.get(random.nextInt(slides.size())));
        int sights = behind == null ? 0 : random.nextInt(random.nextInt(10) == 0 ? 14 : 4);
        for (int k = 0; k < sights; k++) {
            int t = random.nextInt(state.log.size() + 1);
            int r = row(state);
            int c = column(state);
            all.append(line("seen", t, r, c, behind.get(t).get(r)[c]));
        }
        return all.toString();
    }

    private int row(Oracle.State state) {
        return state.cloth.isEmpty() ? 0 : random.nextInt(state.cloth.size());
    }

    private int column(Oracle.State state) {
        return state.columns() == 0 ? 0 : random.nextInt(state.columns());
    }

    private int amount() {
        return random.nextInt(4) == 0 ? random.nextInt(102) - 1 : 1 + random.nextInt(6);
    }

    private String marred(String text) {
        StringBuilder all = new StringBuilder(text.length() > 399 ? text.substring(0, 399) : text);
        String signs = " \n;0123456789acklmnoprstuw!A\r\t\0\u00ff";
        int changes = random.nextInt(3);
        for (int i = 0; i < changes && all.length() > 0; i++) {
            int place = random.nextInt(all.length());
            char sign = signs.charAt(random.nextInt(signs.length()));
            switch (random.nextInt(4)) {
                case 0:
                    all.setCharAt(place, sign);
                    break;
                case 1:
                    all.deleteCharAt(place);
                    break;
                case 2:
                    all.insert(place, sign);
                    break;
                default:
                    all.setLength(place);
            }
        }
        return all.toString();
    }

    private String one(String[] names) {
        return names[random.nextInt(names.length)];
    }

    /** Mostly a value from 0 to below the bound, sometimes one beyond. */
    private int near(int bound) {
        int die = random.nextInt(40);
        if (die == 0) {
            return EDGES[random.nextInt(EDGES.length)];
        }
        return die < 4 || bound < 1 ? random.nextInt(Math.max(0, bound) + 3) - 1 : random.nextInt(bound);
    }

    private int someRow() {
        return near(oracle.now.cloth.size());
    }

    private int someColumn() {
        return near(oracle.now.columns());
    }

    private int someTime() {
        return near(oracle.now.log.size() + 1);
    }

    private int orNone(int n) {
        return random.nextInt(4) == 0 ? -1 : n;
    }

    private int someSum(int row) {
        int whole = Math.max(0, oracle.sum(row));
        switch (random.nextInt(6)) {
            case 0:
                return random.nextInt(30);
            case 1:
                return whole - random.nextInt(30);
            case 2:
                return near(200);
            default:
                return random.nextInt(whole + 2);
        }
    }

    private void step(String name) throws Exception {
        int r = someRow();
        int s = someRow();
        int c = someColumn();
        switch (name) {
            case "put":
                same(name, random.nextBoolean(), r, c, amount());
                break;
            case "carry":
                same(name, random.nextBoolean(), r, c);
                break;
            case "shift":
                same(name, r, s, c, amount());
                break;
            case "slide":
                same(name, r, c, random.nextBoolean());
                break;
            case "see":
                see(r, c);
                break;
            case "toTheEdge":
                toTheEdge(r, c);
                break;
            case "can":
                same(name, near(5), r, s, c, amount());
                break;
            case "missing":
                if (oracle.sum(r) < 3000) {
                    same(name, r);
                }
                break;
            case "join": case "compare": case "apart":
                same(name, r, s);
                break;
            case "pay": case "pays":
                same(name, r, s, someSum(r));
                break;
            case "paysOf":
                int sum = someSum(r);
                for (int i = -1; i <= oracle.now.columns(); i++) {
                    same(name, r, s, sum, i);
                }
                break;
            default:
                stepOn(name, r, c);
        }
    }

    private void stepOn(String name, int r, int c) throws Exception {
        switch (name) {
            case "drop": case "plain": case "doubled": case "halve": case "clear": case "carries":
                same(name, r);
                break;
            case "sum": case "counters":
                same(name, orNone(r));
                break;
            case "of":
                same(name, r, c);
                break;
            case "worth":
                same(name, c, near(3));
                break;
            case "plainOf":
                same(name, someSum(r), orNone(c));
                break;
            case "ways": case "breaks":
                same(name, r, someSum(r));
                break;
            case "taken":
                same(name, r, someSum(r), orNone(c));
                break;
            case "column":
                same(name, near(22));
                break;
            case "unsee":
                same(name, near(oracle.now.seen.size()));
                break;
            case "move":
                same(name, near(oracle.now.log.size()), near(5));
                break;
            case "at":
                same(name, someTime(), r, c);
                break;
            case "sumAt":
                same(name, someTime());
                break;
            case "seen":
                same(name, near(oracle.now.seen.size()), near(5));
                break;
            case "slideAt":
                same(name, near(oracle.now.explaining().size()), near(5));
                break;
            case "leftOutAt":
                same(name, near(oracle.now.explainingLeftOut().size()));
                break;
            case "look":
                same(name, near(4));
                break;
            case "spell":
                same(name, near(oracle.spell(-1)));
                break;
            case "report":
                same(name, r, near(Math.max(0, oracle.report(r, -1))));
                break;
            case "count":
                same(name, near(8));
                break;
            default:
                same(name);
        }
    }

    /** A slide, then a move that the cell bears only thanks to it: by the log it goes out of bounds. */
    private void toTheEdge(int r, int c) throws Exception {
        boolean up = random.nextBoolean();
        boolean taken = random.nextBoolean();
        same("slide", r, c, up);
        int where = taken ? up ? c + 1 : c - 1 : c;
        int there = oracle.of(r, where);
        same("put", taken, r, where, taken ? there : 99 - there);
        same("differs");
        for (int t = 0; t <= oracle.now.log.size(); t++) {
            same("at", t, r, where);
        }
        same("strike");
        same("undo");
    }

    /** Mostly what a secret slide or the log makes of the cell, so that slides stay that explain it. */
    private void see(int r, int c) throws Exception {
        int t = someTime();
        if (secret == null || oracle.now.withSlide(secret) == null) {
            List<Oracle.Slide> all = oracle.now.explaining();
            secret = all.isEmpty() ? null : all.get(random.nextInt(all.size()));
        }
        int n = near(100);
        boolean there = t >= 0 && t <= oracle.now.log.size() && oracle.now.has(r, c);
        List<List<int[]>> behind = secret == null ? null : oracle.now.withSlide(secret);
        if (there && random.nextInt(5) > 0) {
            n = behind == null ? oracle.at(t, r, c) : behind.get(t).get(r)[c];
        }
        same("see", t, r, c, n);
    }

    private void same(String name, Object... args) throws Exception {
        Object want = theirs.get(name).invoke(oracle, args);
        Object got = ours.get(name).invoke(cloth, args);
        String told = "run " + run + ": " + name + Arrays.toString(args);
        check.due(told, ((Number) got).longValue(), ((Number) want).longValue());
    }
}
