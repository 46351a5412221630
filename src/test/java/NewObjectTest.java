/** Promise 1: nothing is known, held, answered; ROOM is 8000 and COST 100. */
public final class NewObjectTest {
    public static void main(String[] args) {
        Check check = new Check();
        nothingIsThere(check);
        roomIs8000(check);
        costIs100(check);
        tapeIsEmpty(check);
        objectsAreApart(check);
        check.end();
    }

    private static void nothingIsThere(Check check) {
        PieceShelf x = new PieceShelf();
        for (int t = 0; t < 6; t++) {
            check.due("length", x.about(t, 0), -1);
            check.due("held bytes", x.about(t, 1), 0);
            check.due("spans", x.about(t, 2), 0);
            check.due("first missing", x.about(t, 3), -1);
            check.due("held(t, 0)", x.held(t, 0), false);
            check.due("got of an unknown length", x.got(t, 0, 0, 0), -1);
            check.due("answer of an unknown length", Check.answer(x, t), Check.BAD_ARGUMENT);
        }
        for (int what = -1; what <= 6; what++) {
            check.due("told(" + what + ")", x.told(what), -1);
        }
        check.due("row", Check.row(x, 0, false), Check.NO_ELEMENT);
        check.due("row", Check.row(x, -1, true), Check.NO_ELEMENT);
        check.due("fetch", Check.fetch(x, 0, false), Check.NO_ELEMENT);
        check.due("fetch", Check.fetch(x, -1, true), Check.NO_ELEMENT);
    }

    private static void roomIs8000(Check check) {
        PieceShelf x = new PieceShelf();
        x.thing(0, 4095, 0);
        x.thing(1, 4095, 0);
        x.got(0, 0, 3999, 0);
        x.got(1, 0, 3999, 0);
        check.due("4000 of 8000", x.about(0, 1), 4000);
        x.got(1, 4000, 4000, 0);
        check.due("one over 8000", x.about(0, 1), 3999);
    }

    private static void costIs100(Check check) {
        PieceShelf x = new PieceShelf();
        x.thing(0, 1, 0);
        Check.answer(x, 0);
        check.due("cost of one place", x.told(4), 101);
    }

    private static void tapeIsEmpty(Check check) {
        PieceShelf x = new PieceShelf();
        x.thing(0, 10, 0);
        check.due("first text", Check.ask(x, "bytes=1-2", 0), 1);
    }

    private static void objectsAreApart(Check check) {
        PieceShelf x = new PieceShelf();
        x.thing(0, 10, 3);
        x.got(0, 0, 4, 3);
        Check.ask(x, "bytes=0-1", 0);
        Check.type(x, "bytes=");
        PieceShelf y = new PieceShelf();
        check.due("another's length", y.about(0, 0), -1);
        check.due("another's answer", y.told(5), -1);
        y.thing(0, 10, 3);
        check.due("another's bytes", y.about(0, 1), 0);
        check.due("another's tape", Check.ask(y, "1-2", 0), 0);
    }
}
