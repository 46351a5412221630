/** Promise 2: what goes to the tape. */
public final class TypeTest {
    public static void main(String[] args) {
        Check check = new Check();
        wrongCounts(check);
        wrongBytes(check);
        higherBytesDoNotMatter(check);
        highestFirst(check);
        sixtyAtMost(check);
        check.end();
    }

    private static PieceShelf shelf() {
        PieceShelf x = new PieceShelf();
        x.thing(0, 100, 0);
        return x;
    }

    private static void wrongCounts(Check check) {
        PieceShelf x = shelf();
        Check.type(x, "bytes=1-");
        long eight = Check.word("22222222");
        for (int n : new int[] {0, -1, 9, 64, Integer.MIN_VALUE, Integer.MAX_VALUE}) {
            check.due("type(.., " + n + ")", x.type(eight, n), false);
        }
        check.due("nothing was typed", Check.answer(x, 0), 1);
        check.rows("nothing was typed", x, 1, 99);
    }

    private static void wrongBytes(Check check) {
        for (int b = 0; b < 256; b++) {
            boolean good = b >= 33 && b <= 126;
            PieceShelf x = shelf();
            check.due("byte " + b, x.type(b, 1), good);
            check.due("byte " + b + " behind another", shelf().type(0x3100L | b, 2), good);
            check.due("byte " + b + " before another", shelf().type((long) b << 56 | 0x31313131313131L, 8), good);
        }
        PieceShelf x = shelf();
        Check.type(x, "bytes=1-");
        check.due("a bad one behind good ones", x.type(Check.word("22 "), 3), false);
        check.due("a bad one before good ones", x.type(Check.word(" 22"), 3), false);
        check.due("bad ones change nothing", Check.answer(x, 0), 1);
        check.rows("bad ones change nothing", x, 1, 99);
    }

    private static void higherBytesDoNotMatter(Check check) {
        PieceShelf x = shelf();
        Check.type(x, "bytes=7");
        check.due("higher bytes", x.type(0xFF00000000000000L | '-', 1), true);
        check.due("answer", Check.answer(x, 0), 1);
        check.rows("higher bytes", x, 7, 99);
    }

    private static void highestFirst(Check check) {
        PieceShelf x = shelf();
        for (String piece : new String[] {"b", "yt", "es=", "12-3", "4"}) {
            check.due("type " + piece, x.type(Check.word(piece), piece.length()), true);
        }
        check.due("answer", Check.answer(x, 0), 1);
        check.rows("pieces", x, 12, 34);
    }

    private static void sixtyAtMost(Check check) {
        String sixty = "bytes=00001-00002,00003-00004,00005-00006,00007-00008,9-9,-1";
        check.due("length of the text", sixty.length(), 60);
        PieceShelf x = shelf();
        check.due("sixty", Check.type(x, sixty), true);
        check.due("one more", x.type('1', 1), false);
        check.due("eight more", x.type(Check.word("11111111"), 8), false);
        check.due("answer", Check.answer(x, 0), 1);
        check.rows("sixty", x, 1, 9, 99, 99);
        check.due("54", Check.type(x, sixty.substring(0, 54)), true);
        check.due("seven more", x.type(Check.word("9-9,-10"), 7), false);
        check.due("six more", x.type(Check.word("9-9,-2"), 6), true);
        check.due("answer", Check.answer(x, 0), 1);
        check.rows("the seven changed nothing", x, 1, 9, 98, 99);
        check.due("the tape is empty behind it", Check.type(x, sixty), true);
    }
}
