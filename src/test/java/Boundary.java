import java.util.function.Supplier;
import java.util.function.ToLongFunction;

/** Runs boundary cases, each a test of its own, named by its promise and the document's words that it holds. */
final class Boundary {
    static final int LEAST = Integer.MIN_VALUE;
    static final int MOST = Integer.MAX_VALUE;

    private final Check check = new Check();
    private final Document document = Document.read();
    private String name = "";
    private int tests;

    /** Numbers that are none of 0 .. many - 1: the next ones and the farthest. */
    static int[] outside(int many) {
        return new int[] {-1, -2, many, many + 1, LEAST, MOST};
    }

    /** A boundary case that a promise names. */
    void promise(int number, String words, Runnable body) {
        run(number, "P" + number, words, body);
    }

    /** A boundary case that the terms name, and the promise whose call shows it. */
    void terms(int promise, String words, Runnable body) {
        run(Document.TERMS, "P" + promise + " (terms)", words, body);
    }

    private void run(int part, String title, String words, Runnable body) {
        name = title + " \"" + words + "\": ";
        tests++;
        check.holds(name + "these words stand in the document", document.quote(part, words));
        try {
            body.run();
        } catch (RuntimeException e) {
            check.holds(name + "threw " + e, false);
        }
    }

    void due(String call, long got, long want) {
        check.due(name + call, got, want);
    }

    void same(String what, String got, String want) {
        check.holds(name + what + " is <" + got + ">, due is <" + want + ">", got.equals(want));
    }

    /** The FAULT of a text stands where the sign ^ stands, which is not told. */
    void faults(String text) {
        due("text <" + text + ">", Told.text(new ExchequerCloth(), text.replace("^", "")), -4 - text.indexOf('^'));
    }

    void reads(String text, int rows) {
        due("text <" + text + ">", Told.text(new ExchequerCloth(), text), rows);
    }

    /** What spell tells. */
    void spells(ExchequerCloth x, String want) {
        same("spell", Told.spelled(x), want);
    }

    /**
     * A refused call changes nothing: of two made alike one is asked in vain, then both answer
     * alike, and behind an undo, too.
     */
    void refused(Supplier<ExchequerCloth> make, String call, ToLongFunction<ExchequerCloth> asked, int want) {
        ExchequerCloth twin = make.get();
        ExchequerCloth x = make.get();
        due(call, asked.applyAsLong(x), want);
        same("behind " + call, State.of(x), State.of(twin));
        due("undo behind " + call, x.undo(), twin.undo());
        same("undone behind " + call, State.of(x), State.of(twin));
    }

    /** As refused, on a cloth behind so many acts that one more would push the oldest out. */
    void refused(String text, String call, ToLongFunction<ExchequerCloth> asked, int want) {
        refused(() -> busy(text), call, asked, want);
    }

    /** A cloth as its text tells it, behind more acts than can be undone; the last one was an unsee. */
    private static ExchequerCloth busy(String text) {
        ExchequerCloth x = Told.cloth(text);
        for (int i = 0; i < 7 && x.count(3) < 12; i++) {
            x.see(0, 0, 0, 10 + i);
            x.unsee(x.count(3) - 1);
        }
        return x;
    }

    void finish(String title) {
        String left = document.unquoted();
        check.holds("words of the document that no test quotes:\n" + left, left.isEmpty());
        System.out.println(tests + " boundary cases");
        check.finish(title);
    }
}
