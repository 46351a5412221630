import java.util.NoSuchElementException;

/** Counts the answers that are not as due; end() makes the test fail if there was one. */
final class Check {
    static final int NO_ELEMENT = Integer.MIN_VALUE;
    static final int BAD_ARGUMENT = Integer.MIN_VALUE + 1;
    static final int[] NO_THINGS = {-1, 6, 7, -6, Integer.MIN_VALUE, Integer.MAX_VALUE};

    /** The test of one sentence. */
    interface Test {
        void run(Check check);
    }

    private int wrong = 0;
    private String words = "";

    /** Runs the test of a sentence of the document, whose words stand before each wrong answer. */
    void sentence(String itsWords, Test test) {
        words = "[" + itsWords + "] ";
        test.run(this);
        words = "";
    }

    void due(String call, long got, long want) {
        if (got != want) {
            tell(call, named(got), named(want));
        }
    }

    void due(String call, boolean got, boolean want) {
        if (got != want) {
            tell(call, Boolean.toString(got), Boolean.toString(want));
        }
    }

    void due(String call, String got, String want) {
        if (!got.equals(want)) {
            tell(call, got, want);
        }
    }

    private void tell(String call, String got, String want) {
        wrong++;
        System.out.println(words + call + " answered " + got + ", due is " + want);
    }

    private static String named(long answer) {
        return answer == NO_ELEMENT ? "NoSuchElementException"
            : answer == BAD_ARGUMENT ? "IllegalArgumentException" : Long.toString(answer);
    }

    void end() {
        System.out.println(wrong == 0 ? "all answers are as due" : wrong + " answers are not as due");
        if (wrong != 0) {
            System.exit(1);
        }
    }

    static PieceShelf shelf(int length) {
        PieceShelf x = new PieceShelf();
        x.thing(0, length, 0);
        return x;
    }

    static long word(String text) {
        long word = 0L;
        for (int k = 0; k < text.length(); k++) {
            word = word << 8 | text.charAt(k);
        }
        return word;
    }

    /** Types a text of any length in words of up to eight bytes; whether all were taken. */
    static boolean type(PieceShelf x, String text) {
        boolean taken = true;
        for (int at = 0; at < text.length(); at += 8) {
            String piece = text.substring(at, Math.min(at + 8, text.length()));
            taken &= x.type(word(piece), piece.length());
        }
        return taken;
    }

    static int ask(PieceShelf x, String text, int t) {
        type(x, text);
        return answer(x, t);
    }

    static int answer(PieceShelf x, int t) {
        try {
            return x.answer(t);
        } catch (IllegalArgumentException e) {
            return BAD_ARGUMENT;
        }
    }

    static int row(PieceShelf x, int i, boolean end) {
        try {
            return x.row(i, end);
        } catch (NoSuchElementException e) {
            return NO_ELEMENT;
        }
    }

    static int fetch(PieceShelf x, int i, boolean end) {
        try {
            return x.fetch(i, end);
        } catch (NoSuchElementException e) {
            return NO_ELEMENT;
        }
    }

    /** The rows must be these, told as first, last, first, last .., and no more. */
    void rows(String name, PieceShelf x, int... want) {
        due(name + ": told(0)", x.told(0), want.length / 2);
        for (int k = 0; k < want.length; k++) {
            due(name + ": row(" + k / 2 + ", " + (k % 2 == 1) + ")", row(x, k / 2, k % 2 == 1), want[k]);
        }
        due(name + ": no more rows", row(x, want.length / 2, false), NO_ELEMENT);
        due(name + ": no more rows", row(x, want.length / 2, true), NO_ELEMENT);
    }

    void fetches(String name, PieceShelf x, int price, int... want) {
        due(name + ": told(3)", x.told(3), want.length / 2);
        due(name + ": told(4)", x.told(4), price);
        for (int k = 0; k < want.length; k++) {
            due(name + ": fetch(" + k / 2 + ", " + (k % 2 == 1) + ")", fetch(x, k / 2, k % 2 == 1), want[k]);
        }
        due(name + ": no more fetches", fetch(x, want.length / 2, false), NO_ELEMENT);
        due(name + ": no more fetches", fetch(x, want.length / 2, true), NO_ELEMENT);
    }

    /** How many bytes of the things 0, 1, .. must be held. */
    void counts(String name, PieceShelf x, int... want) {
        for (int t = 0; t < want.length; t++) {
            due(name + ": held of " + t, x.about(t, 1), want[t]);
        }
    }

    /** Just these spans must be held of a thing. */
    void spans(String name, PieceShelf x, int t, int... want) {
        due(name + ": spans", x.about(t, 2), want.length / 2);
        int sum = 0;
        for (int k = 0; k + 1 < want.length; k += 2) {
            sum += want[k + 1] - want[k] + 1;
            for (int p = want[k]; p <= want[k + 1]; p++) {
                due(name + ": held(" + t + ", " + p + ")", x.held(t, p), true);
            }
        }
        due(name + ": held bytes", x.about(t, 1), sum);
    }
}
