import java.util.NoSuchElementException;

/** Counts the answers that are not as due; end() makes the test fail if there was one. */
final class Check {
    static final int NO_ELEMENT = Integer.MIN_VALUE;
    static final int BAD_ARGUMENT = Integer.MIN_VALUE + 1;

    private int wrong = 0;

    void due(String call, long got, long want) {
        if (got != want) {
            wrong++;
            System.out.println(call + " answered " + got + ", due is " + want);
        }
    }

    void due(String call, boolean got, boolean want) {
        due(call, got ? 1L : 0L, want ? 1L : 0L);
    }

    void end() {
        System.out.println(wrong == 0 ? "all answers are as due" : wrong + " answers are not as due");
        if (wrong != 0) {
            System.exit(1);
        }
    }

    static long word(String text) {
        long word = 0L;
        for (int k = 0; k < text.length(); k++) {
            word = word << 8 | text.charAt(k);
        }
        return word;
    }

    /** Types a text of any length in words of up to eight bytes; whether all were taken. */
    static boolean type(PieceShelf x, String text) {
        boolean taken = true;
        for (int at = 0; at < text.length(); at += 8) {
            String piece = text.substring(at, Math.min(at + 8, text.length()));
            taken &= x.type(word(piece), piece.length());
        }
        return taken;
    }

    static int ask(PieceShelf x, String text, int t) {
        type(x, text);
        return answer(x, t);
    }

    static int answer(PieceShelf x, int t) {
        try {
            return x.answer(t);
        } catch (IllegalArgumentException e) {
            return BAD_ARGUMENT;
        }
    }

    static int row(PieceShelf x, int i, boolean end) {
        try {
            return x.row(i, end);
        } catch (NoSuchElementException e) {
            return NO_ELEMENT;
        }
    }

    static int fetch(PieceShelf x, int i, boolean end) {
        try {
            return x.fetch(i, end);
        } catch (NoSuchElementException e) {
            return NO_ELEMENT;
        }
    }

    /** The rows must be these, told as first, last, first, last .., and no more. */
    void rows(String name, PieceShelf x, int... want) {
        due(name + ": told(0)", x.told(0), want.length / 2);
        for (int k = 0; k < want.length; k++) {
            due(name + ": row(" + k / 2 + ", " + (k % 2 == 1) + ")", row(x, k / 2, k % 2 == 1), want[k]);
        }
        due(name + ": no more rows", row(x, want.length / 2, false), NO_ELEMENT);
        due(name + ": no more rows", row(x, want.length / 2, true), NO_ELEMENT);
    }

    void fetches(String name, PieceShelf x, int price, int... want) {
        due(name + ": told(3)", x.told(3), want.length / 2);
        due(name + ": told(4)", x.told(4), price);
        for (int k = 0; k < want.length; k++) {
            due(name + ": fetch(" + k / 2 + ", " + (k % 2 == 1) + ")", fetch(x, k / 2, k % 2 == 1), want[k]);
        }
        due(name + ": no more fetches", fetch(x, want.length / 2, false), NO_ELEMENT);
        due(name + ": no more fetches", fetch(x, want.length / 2, true), NO_ELEMENT);
    }
}
