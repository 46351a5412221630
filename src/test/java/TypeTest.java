/** Promise 2: what goes to the tape. */
public final class TypeTest {
    private static final String SIXTY = "bytes=00001-00002,00003-00004,00005-00006,00007-00008,9-9,-1";

    public static void main(String[] args) {
        Check check = new Check();
        check.sentence("The n (1 .. 8) lowest bytes of word", TypeTest::oneToEight);
        check.sentence("the .. lowest bytes of word", TypeTest::higherBytesDoNotMatter);
        check.sentence("the highest first", TypeTest::highestFirst);
        check.sentence("go to the tape", TypeTest::behindWhatIsThere);
        check.sentence("false, changing nothing, for another n", TypeTest::anotherN);
        check.sentence("false, .., for .. a byte that is not 33 .. 126", TypeTest::wrongBytes);
        check.sentence("changing nothing, for .. a byte that is not 33 .. 126", TypeTest::wrongBytesChangeNothing);
        check.sentence("if it would have more than 60", TypeTest::sixtyAtMost);
        check.sentence("changing nothing, .. if it would have more than 60", TypeTest::tooManyChangeNothing);
        check.end();
    }

    private static void oneToEight(Check check) {
        String text = "bytes=00012-34";
        for (int n = 1; n <= 8; n++) {
            PieceShelf x = Check.shelf(100);
            int rest = text.length() % n;
            Check.type(x, text.substring(0, rest));
            for (int at = rest; at < text.length(); at += n) {
                check.due("type(.., " + n + ")", x.type(Check.word(text.substring(at, at + n)), n), true);
            }
            check.due("answer", Check.answer(x, 0), 1);
            check.rows("typed by " + n, x, 12, 34);
        }
    }

    private static void higherBytesDoNotMatter(Check check) {
        for (int n = 1; n <= 7; n++) {
            PieceShelf x = Check.shelf(100);
            Check.type(x, "bytes=");
            String piece = "0000012-".substring(8 - n);
            long higher = 0x80FF00207F0A1FFFL << (8 * n);
            check.due("higher bytes, n " + n, x.type(higher | Check.word(piece), n), true);
            int kind = Check.answer(x, 0);
            check.due("answer, n " + n, kind, n == 1 || n == 7 ? 0 : 1);
            check.rows("higher bytes, n " + n, x, n == 1 || n == 7 ? 0 : n == 2 ? 2 : 12, 99);
        }
    }

    private static void highestFirst(Check check) {
        PieceShelf x = Check.shelf(100);
        x.type(0x62797465733D3132L, 8);
        x.type(0x2D3334L, 3);
        check.due("answer", Check.answer(x, 0), 1);
        check.rows("bytes=12-34", x, 12, 34);
    }

    private static void behindWhatIsThere(Check check) {
        PieceShelf x = Check.shelf(100);
        for (String piece : new String[] {"b", "yt", "es=", "12-3", "4"}) {
            check.due("type " + piece, x.type(Check.word(piece), piece.length()), true);
        }
        check.due("answer", Check.answer(x, 0), 1);
        check.rows("pieces", x, 12, 34);
    }

    private static void anotherN(Check check) {
        for (int n : new int[] {0, -1, -8, 9, 10, 16, 64, 256 + 1, Integer.MIN_VALUE, Integer.MAX_VALUE}) {
            Twins.changesNothing(check, "type(.., " + n + ")", 0, x -> Twins.number(x.type(Check.word("22222222"), n)));
        }
    }

    private static void wrongBytes(Check check) {
        PieceShelf x = new PieceShelf();
        for (int b = 0; b < 256; b++) {
            boolean good = b >= 33 && b <= 126;
            for (int n = 1; n <= 8; n++) {
                for (int at = 0; at < n; at++) {
                    long others = 0x3131313131313131L & ~(255L << (8 * at));
                    check.due("byte " + b + " at " + at + " of " + n, x.type(others | (long) b << (8 * at), n), good);
                    Check.answer(x, 0);
                }
            }
        }
    }

    private static void wrongBytesChangeNothing(Check check) {
        for (int b : new int[] {0, 32, 127, 128, 255}) {
            Twins.changesNothing(check, "byte " + b, 0, x -> Twins.number(x.type(b, 1)));
            Twins.changesNothing(check, "byte " + b + " behind two", 0, x -> Twins.number(x.type(0x323200L | b, 3)));
            Twins.changesNothing(check, "byte " + b + " before two", 0, x -> Twins.number(x.type(0x3232L | b << 16, 3)));
        }
    }

    private static void sixtyAtMost(Check check) {
        for (int n = 1; n <= 8; n++) {
            PieceShelf x = new PieceShelf();
            Check.type(x, SIXTY.substring(0, 60 - n));
            if (n < 8) {
                check.due((n + 1) + " behind " + (60 - n), x.type(Check.word("11111111"), n + 1), false);
            }
            check.due(n + " behind " + (60 - n), x.type(Check.word("11111111"), n), true);
            for (int more = 1; more <= 8; more++) {
                check.due(more + " behind 60", x.type(Check.word("11111111"), more), false);
            }
        }
        PieceShelf x = Check.shelf(100);
        check.due("sixty", Check.type(x, SIXTY), true);
        check.due("the tape is empty behind an answer", Check.answer(x, 0), 1);
        check.due("sixty anew", Check.type(x, SIXTY), true);
    }

    private static void tooManyChangeNothing(Check check) {
        PieceShelf x = Check.shelf(100);
        Check.type(x, SIXTY);
        check.due("one more", x.type('1', 1), false);
        check.due("eight more", x.type(Check.word("11111111"), 8), false);
        check.due("answer", Check.answer(x, 0), 1);
        check.rows("sixty", x, 1, 9, 99, 99);
        Check.type(x, SIXTY.substring(0, 54));
        check.due("seven behind 54", x.type(Check.word("9-9,-10"), 7), false);
        check.due("six behind 54", x.type(Check.word("9-9,-2"), 6), true);
        check.due("answer", Check.answer(x, 0), 1);
        check.rows("the seven changed nothing", x, 1, 9, 98, 99);
    }
}
