/** Promise 1, and what Terms says of the beginning. */
public final class NewObjectTest {
    public static void main(String[] args) {
        Check check = new Check();
        check.sentence("Nothing is known", NewObjectTest::nothingIsKnown);
        check.sentence("Nothing is .. HELD", NewObjectTest::nothingIsHeld);
        check.sentence("Nothing is .. answered", NewObjectTest::nothingIsAnswered);
        check.sentence("ROOM (0 .. 20000, 8000 at first)", NewObjectTest::roomIs8000);
        check.sentence("COST (0 .. 1000, 100 at first)", NewObjectTest::costIs100);
        check.sentence("the tape of a new object is empty", NewObjectTest::tapeIsEmpty);
        check.sentence("an object has nothing of another one", NewObjectTest::objectsAreApart);
        check.end();
    }

    private static void nothingIsKnown(Check check) {
        PieceShelf x = new PieceShelf();
        for (int t = 0; t < 6; t++) {
            check.due("length", x.about(t, 0), -1);
            check.due("first missing", x.about(t, 3), -1);
            check.due("got of an unknown length", x.got(t, 0, 0, 0), -1);
            check.due("answer of an unknown length", Check.answer(x, t), Check.BAD_ARGUMENT);
        }
    }

    private static void nothingIsHeld(Check check) {
        PieceShelf x = new PieceShelf();
        for (int t = 0; t < 6; t++) {
            check.due("held bytes", x.about(t, 1), 0);
            check.due("spans", x.about(t, 2), 0);
            check.due("held(t, 0)", x.held(t, 0), false);
            x.thing(t, 4095, 0);
            check.due("held bytes of a known length", x.about(t, 1), 0);
            check.due("first missing of a known length", x.about(t, 3), 0);
        }
    }

    private static void nothingIsAnswered(Check check) {
        PieceShelf x = new PieceShelf();
        for (int what = -1; what <= 6; what++) {
            check.due("told(" + what + ")", x.told(what), -1);
        }
        for (int i = -1; i <= 1; i++) {
            check.due("row(" + i + ")", Check.row(x, i, false), Check.NO_ELEMENT);
            check.due("row(" + i + ")", Check.row(x, i, true), Check.NO_ELEMENT);
            check.due("fetch(" + i + ")", Check.fetch(x, i, false), Check.NO_ELEMENT);
            check.due("fetch(" + i + ")", Check.fetch(x, i, true), Check.NO_ELEMENT);
        }
    }

    private static void roomIs8000(Check check) {
        PieceShelf x = new PieceShelf();
        x.thing(0, 4095, 0);
        x.thing(1, 4095, 0);
        x.got(0, 0, 3999, 0);
        x.got(1, 0, 3999, 0);
        check.counts("8000", x, 4000, 4000);
        x.got(1, 4000, 4000, 0);
        check.counts("one over 8000", x, 3999, 4001);
    }

    private static void costIs100(Check check) {
        PieceShelf x = Check.shelf(1000);
        Check.ask(x, "bytes=0-0", 0);
        check.fetches("one place", x, 101, 0, 0);
        Check.ask(x, "bytes=0-0,101-101", 0);
        check.fetches("a gap of 100", x, 202, 0, 101);
        Check.ask(x, "bytes=0-0,102-102", 0);
        check.fetches("a gap of 101", x, 202, 0, 0, 102, 102);
    }

    private static void tapeIsEmpty(Check check) {
        PieceShelf x = Check.shelf(10);
        check.due("first text", Check.ask(x, "bytes=1-2", 0), 1);
        PieceShelf y = new PieceShelf();
        String sixty = "7".repeat(60);
        check.due("sixty bytes", Check.type(y, sixty), true);
    }

    private static void objectsAreApart(Check check) {
        PieceShelf x = Check.shelf(10);
        x.got(0, 0, 4, 0);
        Check.ask(x, "bytes=0-1", 0);
        Check.type(x, "bytes=");
        x.set(0, 1);
        x.set(1, 1);
        PieceShelf y = new PieceShelf();
        check.due("another's length", y.about(0, 0), -1);
        check.due("another's answer", y.told(5), -1);
        y.thing(0, 10, 0);
        check.due("another's bytes", y.about(0, 1), 0);
        check.due("another's tape", Check.ask(y, "1-2", 0), 0);
        check.due("another's cost", y.told(4), 110);
        y.got(0, 0, 4, 0);
        check.due("another's room", y.about(0, 1), 5);
    }
}
