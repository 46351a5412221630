/** Promises 6, 7 and 8: what is a text, what is answered, and what is told of it. */
public final class AnswerTest {
    public static void main(String[] args) {
        Check check = new Check();
        noTexts(check);
        parts(check);
        vainParts(check);
        joinedParts(check);
        wholeAnswers(check);
        wrongThings(check);
        numbersTold(check);
        answersStay(check);
        check.end();
    }

    private static PieceShelf shelf(int length) {
        PieceShelf x = new PieceShelf();
        x.thing(0, length, 0);
        return x;
    }

    private static void noTexts(Check check) {
        String[] texts = {
            "", "b", "bytes", "bytes=", "bytes=-", "bytes=,", "bytes=1", "bytes=1-2,", "bytes=,1-2", "bytes=1-2,,3-4",
            "bytes=2-1", "bytes=1-2,9-8", "bytes=--1", "bytes=1--", "bytes=1-2-", "bytes=1-2-3", "bytes=-1-",
            "bytes=123456-", "bytes=-000001", "bytes=1-000002", "bytes=000001-2", "bytes=a-b", "bytes=1-b",
            "bytes=+1-2", "bytes=1-2;3-4", "bytes=1-2,x", "Bytes=1-2", "BYTES=1-2", "byte=1-2", "bytes:1-2",
            "xbytes=1-2", "bytes==1-2", "1-2", "bytes=1-1,2-2,3-3,4-4,5-5,6-6,7-7", "bytes=1-1,2-2,3-3,4-4,5-5,6-6,",
            "bytes=100-99", "bytes=99999-9999", "bytes=1/-2", "bytes=1-:",
        };
        for (String text : texts) {
            PieceShelf x = shelf(100);
            check.due("answer of '" + text + "'", Check.ask(x, text, 0), 0);
            check.rows("'" + text + "'", x, 0, 99);
        }
    }

    private static void part(Check check, String text, int first, int last) {
        PieceShelf x = shelf(100);
        check.due("answer of '" + text + "'", Check.ask(x, text, 0), 1);
        check.rows("'" + text + "'", x, first, last);
        check.due("'" + text + "': told(1)", x.told(1), last - first + 1);
    }

    private static void parts(Check check) {
        part(check, "bytes=0-0", 0, 0);
        part(check, "bytes=5-5", 5, 5);
        part(check, "bytes=00007-7", 7, 7);
        part(check, "bytes=99-99", 99, 99);
        part(check, "bytes=99-100", 99, 99);
        part(check, "bytes=0-99999", 0, 99);
        part(check, "bytes=0-", 0, 99);
        part(check, "bytes=99-", 99, 99);
        part(check, "bytes=00042-", 42, 99);
        part(check, "bytes=-1", 99, 99);
        part(check, "bytes=-100", 0, 99);
        part(check, "bytes=-101", 0, 99);
        part(check, "bytes=-99999", 0, 99);
        PieceShelf x = shelf(100);
        Check.ask(x, "bytes=60-69,0-9,-5", 0);
        check.rows("as told, not rising", x, 60, 69, 0, 9, 95, 99);
        Check.ask(x, "bytes=10-19,0-9", 0);
        check.rows("neighbours stay apart", x, 10, 19, 0, 9);
    }

    private static void vainParts(Check check) {
        for (String text : new String[] {"bytes=100-", "bytes=100-200", "bytes=-0", "bytes=-00000", "bytes=99999-,-0"}) {
            PieceShelf x = shelf(100);
            x.got(0, 0, 9, 0);
            check.due("answer of '" + text + "'", Check.ask(x, text, 0), 2);
            check.rows("'" + text + "'", x);
            check.fetches("'" + text + "'", x, 0);
            check.due("told(1)", x.told(1), 0);
            check.due("told(2)", x.told(2), 0);
            check.due("told(5)", x.told(5), 0);
        }
        PieceShelf x = shelf(100);
        check.due("some are vain", Check.ask(x, "bytes=100-,7-8,-0,3-4,200-201,1-1", 0), 1);
        check.rows("vain ones do not count to the three", x, 7, 8, 3, 4, 1, 1);
        for (String text : new String[] {"bytes=0-", "bytes=-5", "bytes=0-0"}) {
            check.due("of nothing '" + text + "'", Check.ask(shelf(0), text, 0), 2);
        }
    }

    private static void joinedParts(Check check) {
        PieceShelf x = shelf(100);
        Check.ask(x, "bytes=50-60,0-10,10-20", 0);
        check.rows("one place in common", x, 0, 20, 50, 60);
        Check.ask(x, "bytes=50-60,0-10,11-20,10-10", 0);
        check.rows("four", x, 0, 20, 50, 60);
        Check.ask(x, "bytes=5-6,5-6", 0);
        check.rows("the same twice", x, 5, 6);
        check.due("places count once", x.told(1), 2);
        Check.ask(x, "bytes=80-,-5,10-19,20-29", 0);
        check.rows("neighbours grow together", x, 10, 29, 80, 99);
        Check.ask(x, "bytes=9-9,7-7,5-5,3-3", 0);
        check.rows("four apart rise", x, 3, 3, 5, 5, 7, 7, 9, 9);
        Check.ask(x, "bytes=9-9,7-7,5-5,3-3,1-1,-1", 0);
        check.rows("six apart rise", x, 1, 1, 3, 3, 5, 5, 7, 7, 9, 9, 99, 99);
        Check.ask(x, "bytes=9-9,7-7,5-5", 0);
        check.rows("three apart stay as told", x, 9, 9, 7, 7, 5, 5);
        Check.ask(x, "bytes=0-99,40-50,20-30", 0);
        check.rows("one in another", x, 0, 99);
    }

    private static void wholeAnswers(Check check) {
        PieceShelf x = shelf(0);
        check.due("nothing", Check.answer(x, 0), 0);
        check.rows("nothing", x);
        check.fetches("nothing", x, 0);
        check.due("nothing: told(1)", x.told(1), 0);
        x.thing(5, 4095, 0);
        check.due("longest", Check.answer(x, 5), 0);
        check.rows("longest", x, 0, 4094);
        check.fetches("longest", x, 4195, 0, 4094);
        check.due("longest: told(1)", x.told(1), 4095);
        check.due("longest: told(5)", x.told(5), 5);
    }

    private static void wrongThings(Check check) {
        PieceShelf x = shelf(100);
        Check.ask(x, "bytes=3-4", 0);
        for (int t : new int[] {-1, 6, 1, Integer.MIN_VALUE, Integer.MAX_VALUE}) {
            check.due("answer(" + t + ")", Check.ask(x, "bytes=8-9", t), Check.BAD_ARGUMENT);
            check.rows("what was answered stays", x, 3, 4);
            check.due("told(5)", x.told(5), 0);
        }
        check.due("the tape is empty even so", Check.answer(x, 0), 0);
        check.due("the tape is empty behind an answer", Check.ask(x, "bytes=8-9", 0), 1);
        check.due("the tape is empty behind an answer", Check.answer(x, 0), 0);
    }

    private static void numbersTold(Check check) {
        PieceShelf x = shelf(100);
        x.got(0, 5, 14, 0);
        Check.ask(x, "bytes=10-19,0-5", 0);
        int[] want = {2, 16, 6, 1, 120, 0};
        for (int what = 0; what < want.length; what++) {
            check.due("told(" + what + ")", x.told(what), want[what]);
        }
        for (int what : new int[] {-1, 6, Integer.MIN_VALUE, Integer.MAX_VALUE}) {
            check.due("told(" + what + ")", x.told(what), -1);
        }
        for (int i : new int[] {-1, 2, Integer.MIN_VALUE, Integer.MAX_VALUE}) {
            check.due("row(" + i + ")", Check.row(x, i, false), Check.NO_ELEMENT);
            check.due("row(" + i + ")", Check.row(x, i, true), Check.NO_ELEMENT);
        }
    }

    private static void answersStay(Check check) {
        PieceShelf x = shelf(100);
        x.got(0, 0, 9, 0);
        Check.ask(x, "bytes=0-19", 0);
        x.got(0, 10, 14, 0);
        x.set(1, 7);
        x.forget(0);
        x.set(0, 0);
        check.rows("as it was then", x, 0, 19);
        check.fetches("as it was then", x, 110, 10, 19);
        check.due("held then", x.told(2), 10);
        check.due("its thing", x.told(5), 0);
    }
}
