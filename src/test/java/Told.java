/** Tells texts to a cloth and reads texts from it. */
final class Told {
    private Told() {
    }

    /** Feeds a text, taking back the blanks that fill its last twenty bytes. */
    static void feed(ExchequerCloth x, String text) {
        for (int[] words : wordsOf(text)) {
            x.feed(words[0], words[1], words[2], words[3], words[4]);
        }
        x.back(fillOf(text));
    }

    static int fillOf(String text) {
        return (20 - text.length() % 20) % 20;
    }

    static int[][] wordsOf(String text) {
        int feeds = (text.length() + 19) / 20;
        int[][] all = new int[feeds][5];
        for (int i = 0; i < feeds * 20; i++) {
            int sign = i < text.length() ? text.charAt(i) & 255 : ' ';
            all[i / 20][i % 20 / 4] |= sign << (24 - 8 * (i % 4));
        }
        return all;
    }

    static int text(ExchequerCloth x, String text) {
        feed(x, text);
        return x.text();
    }

    static ExchequerCloth cloth(String text) {
        ExchequerCloth x = new ExchequerCloth();
        int rows = text(x, text);
        if (rows < 0) {
            throw new IllegalStateException("fault " + (-4 - rows) + " in " + text);
        }
        return x;
    }

    static String spelled(ExchequerCloth x) {
        StringBuilder all = new StringBuilder();
        int length = x.spell(-1);
        for (int i = 0; i < length; i++) {
            all.append((char) x.spell(i));
        }
        return all.toString();
    }

    static String reported(ExchequerCloth x, int row) {
        StringBuilder all = new StringBuilder();
        int length = x.report(row, -1);
        for (int i = 0; i < length; i++) {
            all.append((char) x.report(row, i));
        }
        return all.toString();
    }
}
