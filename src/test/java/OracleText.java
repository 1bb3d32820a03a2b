import java.util.ArrayList;
import java.util.List;
import java.util.regex.Matcher;
import java.util.regex.Pattern;

/** A TEXT cut into pieces first, and read piece by piece then. */
final class OracleText {
    private static final Pattern PIECE = Pattern.compile("[a-z]+|[0-9]+|[ \n]+|.", Pattern.DOTALL);
    private static final List<String> MOVES = List.of("put", "take", "carry", "break", "shift");
    private static final int[] NUMBERS = {3, 3, 2, 2, 4};

    record Piece(String text, int start, boolean blankAhead) {
    }

    static final class Fault extends RuntimeException {
        private static final long serialVersionUID = 1L;
        final int place;

        Fault(int place) {
            this.place = place;
        }
    }

    final List<Piece> pieces = new ArrayList<>();
    final int length;
    int next = 0;
    int fault = -1;

    OracleText(String text) {
        length = text.length();
        boolean blank = false;
        for (Matcher m = PIECE.matcher(text); m.find();) {
            boolean isBlank = m.group().matches("[ \n]+");
            if (!isBlank) {
                pieces.add(new Piece(m.group(), m.start(), blank));
            }
            blank = isBlank;
        }
        pieces.add(new Piece("", length, true));
    }

    private Piece piece() {
        return pieces.get(next);
    }

    private int number(int least, int most) {
        Piece p = piece();
        boolean isNumber = p.text.matches("[0-9]{1,2}") && p.blankAhead;
        if (!isNumber || Integer.parseInt(p.text) < least || Integer.parseInt(p.text) > most) {
            throw new Fault(p.start);
        }
        next++;
        return Integer.parseInt(p.text);
    }

    private void end() {
        if (!piece().text.equals(";")) {
            throw new Fault(piece().start);
        }
        next++;
    }

    private boolean word(String word) {
        if (piece().text.equals(word)) {
            next++;
            return true;
        }
        return false;
    }

    Oracle.State read() {
        try {
            return readWhole();
        } catch (Fault f) {
            fault = f.place;
            return null;
        }
    }

    private Oracle.State readWhole() {
        Oracle.State s = new Oracle.State();
        while (s.columns() < 6 && word("column")) {
            s.ratio.add(s.columns() == 0 ? number(1, 1) : number(2, 20));
            end();
        }
        while (s.columns() > 0 && s.cloth.size() < 4 && word("row")) {
            int[] row = new int[s.columns()];
            row[0] = number(0, 99);
            for (int c = 1; c < row.length && !piece().text.equals(";"); c++) {
                row[c] = number(0, 99);
            }
            end();
            s.cloth.add(row);
        }
        s.anew();
        while (MOVES.contains(piece().text)) {
            readMove(s);
        }
        while (s.seen.size() < 12 && word("seen")) {
            s.seen.add(new Oracle.Sight(number(0, s.log.size()), number(0, s.cloth.size() - 1),
                number(0, s.columns() - 1), number(0, 99)));
            end();
        }
        if (piece().start < length) {
            throw new Fault(piece().start);
        }
        return s;
    }

    private void readMove(Oracle.State s) {
        int start = piece().start;
        int kind = MOVES.indexOf(piece().text);
        next++;
        int[] n = new int[4];
        for (int i = 0; i < NUMBERS[kind]; i++) {
            n[i] = number(0, 99);
        }
        end();
        Oracle.Move m = kind == 4 ? new Oracle.Move(4, n[0], n[1], n[2], n[3]) : new Oracle.Move(kind, n[0], 0, n[1], n[2]);
        if (s.log.size() == 24 || !s.makeIfCanBe(s.cloth, m, 1)) {
            throw new Fault(start);
        }
        s.log.add(m);
    }
}
