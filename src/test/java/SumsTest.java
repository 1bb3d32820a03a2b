import java.util.Arrays;
import java.util.Random;

/** Sums taken, broken for, paid, and rows apart, on many cloths, against the Oracle that tries everything. */
public final class SumsTest {
    private static final int CLOTHS = Integer.getInteger("cloths", 700);

    private final Check check = new Check();
    private final Random random = new Random(20261118);
    private ExchequerCloth cloth;
    private Oracle oracle;
    private String text;

    public static void main(String[] args) {
        SumsTest test = new SumsTest();
        for (int i = 0; i < CLOTHS; i++) {
            test.lay();
            test.askTaken();
            test.askPaid();
            test.askApart();
        }
        test.check.finish("SumsTest");
    }

    private void lay() {
        int columns = 1 + random.nextInt(6);
        int style = random.nextInt(4);
        StringBuilder all = new StringBuilder("column 1;");
        for (int c = 1; c < columns; c++) {
            int ratio = style == 0 ? 2 : style == 1 ? 20 : style == 2 ? 2 + random.nextInt(4) : 2 + random.nextInt(19);
            all.append("column ").append(ratio).append(';');
        }
        int fill = random.nextInt(5);
        for (int r = 0; r < 2; r++) {
            all.append("row");
            for (int c = 0; c < columns; c++) {
                all.append(' ').append(lying(fill));
            }
            all.append(';');
        }
        text = all.toString();
        cloth = Told.cloth(text);
        oracle = new Oracle();
        oracle.tape.append(text);
        oracle.text();
    }

    private int lying(int fill) {
        switch (fill) {
            case 0:
                return random.nextInt(4);
            case 1:
                return random.nextInt(3) == 0 ? 0 : random.nextInt(100);
            case 2:
                return 80 + random.nextInt(20);
            case 3:
                return random.nextBoolean() ? random.nextInt(3) : 97 + random.nextInt(3);
            default:
                return random.nextInt(25);
        }
    }

    private int someSum(int row) {
        int whole = oracle.sum(row);
        switch (random.nextInt(5)) {
            case 0:
                return Math.min(whole + 1, random.nextInt(60));
            case 1:
                return Math.max(0, whole - random.nextInt(60));
            default:
                return random.nextInt(whole + 2);
        }
    }

    private void same(String call, long got, long want) {
        check.due(text + " " + call, got, want);
    }

    private void askTaken() {
        for (int i = 0; i < 4; i++) {
            int sum = someSum(0);
            same("ways " + sum, cloth.ways(0, sum), oracle.ways(0, sum));
            same("breaks " + sum, cloth.breaks(0, sum), oracle.breaks(0, sum));
            for (int c = -1; c < oracle.now.columns(); c++) {
                same("taken " + sum + " " + c, cloth.taken(0, sum, c), oracle.taken(0, sum, c));
            }
        }
        if (oracle.sum(0) < 4000) {
            same("missing", cloth.missing(0), oracle.missing(0));
        }
        same("carries", cloth.carries(0), oracle.carries(0));
    }

    private void askPaid() {
        for (int i = 0; i < 4; i++) {
            int row = random.nextInt(2);
            int sum = someSum(row);
            same("pays " + row + " " + sum, cloth.pays(row, 1 - row, sum), oracle.pays(row, 1 - row, sum));
            for (int c = 0; c < oracle.now.columns(); c++) {
                same("paysOf " + row + " " + sum + " " + c, cloth.paysOf(row, 1 - row, sum, c),
                    oracle.paysOf(row, 1 - row, sum, c));
            }
        }
        int sum = someSum(0);
        same("pay " + sum, cloth.pay(0, 1, sum), oracle.pay(0, 1, sum));
        same("row 0 behind pay " + sum, cloth.sum(0), oracle.sum(0));
        same("counters behind pay " + sum, cloth.counters(0), oracle.counters(0));
    }

    /** A row beside another one that is made of it by carrying and breaking. */
    private void askApart() {
        int[] row = oracle.now.cloth.get(0).clone();
        int columns = row.length;
        int[] other = row.clone();
        for (int i = 0; i < 30 && columns > 1; i++) {
            int c = 1 + random.nextInt(columns - 1);
            int by = random.nextBoolean() ? 1 : -1;
            int lower = other[c - 1] - by * oracle.now.ratio.get(c);
            if (lower >= 0 && lower <= 99 && other[c] + by >= 0 && other[c] + by <= 99) {
                other[c - 1] = lower;
                other[c] += by;
            }
        }
        StringBuilder all = new StringBuilder(text.substring(0, text.indexOf("row")));
        for (int[] one : new int[][] {row, other}) {
            all.append("row ").append(Arrays.toString(one).replaceAll("[\\[\\],]", "")).append(';');
        }
        ExchequerCloth x = Told.cloth(all.toString());
        Oracle o = new Oracle();
        o.tape.append(all);
        o.text();
        check.due(all + " apart 0 1", x.apart(0, 1), o.apart(0, 1));
        check.due(all + " apart 1 0", x.apart(1, 0), o.apart(0, 1));
        check.due(all + " compare", x.compare(0, 1), 0);
    }
}
