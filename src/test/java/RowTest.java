/** Promise 8: row. */
public final class RowTest {
    public static void main(String[] args) {
        Check check = new Check();
        check.sentence("The first (end false) or last place of row i (from 0 on)", RowTest::firstAndLast);
        check.sentence("of the latest ANSWER", RowTest::ofTheLatest);
        check.sentence("NoSuchElementException: there is none such: i", RowTest::noSuchRow);
        check.sentence("NoSuchElementException: there is none such: no rows", RowTest::noRows);
        check.sentence("NoSuchElementException: there is none such: no ANSWER", RowTest::noAnswer);
        check.end();
    }

    private static void firstAndLast(Check check) {
        PieceShelf x = Check.shelf(100);
        Check.ask(x, "bytes=60-69,7-7,-5", 0);
        int[] want = {60, 69, 7, 7, 95, 99};
        for (int i = 0; i < 3; i++) {
            check.due("row(" + i + ", false)", Check.row(x, i, false), want[2 * i]);
            check.due("row(" + i + ", true)", Check.row(x, i, true), want[2 * i + 1]);
        }
        Check.answer(x, 0);
        check.due("first of WHOLE", Check.row(x, 0, false), 0);
        check.due("last of WHOLE", Check.row(x, 0, true), 99);
    }

    private static void ofTheLatest(Check check) {
        PieceShelf x = Check.shelf(100);
        Check.ask(x, "bytes=60-69,7-7", 0);
        x.got(0, 0, 99, 0);
        x.set(0, 0);
        x.thing(0, 5, 5);
        check.rows("it stays", x, 60, 69, 7, 7);
        x.forget(0);
        check.rows("it stays", x, 60, 69, 7, 7);
        x.thing(0, 50, 0);
        Check.ask(x, "bytes=1-2", 0);
        check.rows("a later one", x, 1, 2);
    }

    private static void noSuchRow(Check check) {
        PieceShelf x = Check.shelf(100);
        String text = "bytes=1-1";
        for (int rows = 1; rows <= 6; rows++) {
            Check.ask(x, text, 0);
            for (int i : new int[] {-1, rows, rows + 1, 6, 7, 64, Integer.MIN_VALUE, Integer.MAX_VALUE}) {
                check.due("row(" + i + ") of " + rows, Check.row(x, i, false), Check.NO_ELEMENT);
                check.due("row(" + i + ") of " + rows, Check.row(x, i, true), Check.NO_ELEMENT);
            }
            check.due("the last row", Check.row(x, rows - 1, false), 10 * rows - 9);
            text = text + "," + (10 * rows + 1) + "-" + (10 * rows + 2);
        }
    }

    private static void noRows(Check check) {
        PieceShelf x = Check.shelf(100);
        Check.ask(x, "bytes=1-1", 0);
        Check.ask(x, "bytes=100-", 0);
        check.rows("REFUSED", x);
        x.thing(1, 0, 0);
        Check.ask(x, "bytes=1-1", 0);
        Check.answer(x, 1);
        check.rows("WHOLE of a length of 0", x);
    }

    private static void noAnswer(Check check) {
        PieceShelf x = Check.shelf(100);
        for (int i : new int[] {-1, 0, 1, 5, 6}) {
            check.due("row(" + i + ")", Check.row(x, i, false), Check.NO_ELEMENT);
            check.due("row(" + i + ")", Check.row(x, i, true), Check.NO_ELEMENT);
        }
    }
}
