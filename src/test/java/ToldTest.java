/** Promise 7: told. */
public final class ToldTest {
    public static void main(String[] args) {
        Check check = new Check();
        check.sentence("what 0: how many rows of places it has", ToldTest::rows);
        check.sentence("WHOLE: 1, or 0 of a LENGTH of 0", ToldTest::rowsOfWhole);
        check.sentence("REFUSED: 0", ToldTest::rowsOfRefused);
        check.sentence("1: places all together", ToldTest::places);
        check.sentence("2: of these HELD then", ToldTest::heldThen);
        check.sentence("3: rows of THE PLAN, 4: what that costs", ToldTest::plan);
        check.sentence("5: its THING", ToldTest::itsThing);
        check.sentence("Of the latest ANSWER", ToldTest::laterCallsDoNotMatter);
        check.sentence("NONE for another what", ToldTest::anotherWhat);
        check.sentence("NONE .. without an ANSWER", ToldTest::withoutAnAnswer);
        check.end();
    }

    private static void rows(Check check) {
        PieceShelf x = Check.shelf(100);
        String text = "bytes=1-1";
        for (int k = 1; k <= 6; k++) {
            Check.ask(x, text, 0);
            check.due(text, x.told(0), k);
            text = text + "," + (10 * k + 1) + "-" + (10 * k + 2);
        }
        Check.ask(x, "bytes=1-1,1-2,2-3", 0);
        check.due("grown together", x.told(0), 1);
        Check.ask(x, "bytes=1-1,100-,-0", 0);
        check.due("vain ones are no rows", x.told(0), 1);
    }

    private static void rowsOfWhole(Check check) {
        for (int length : new int[] {1, 2, 64, 4095}) {
            PieceShelf x = Check.shelf(length);
            Check.answer(x, 0);
            check.due("of a length of " + length, x.told(0), 1);
        }
        PieceShelf x = Check.shelf(0);
        check.due("WHOLE of a length of 0", Check.answer(x, 0), 0);
        check.due("of a length of 0", x.told(0), 0);
        for (int what = 1; what <= 4; what++) {
            check.due("told(" + what + ") of a length of 0", x.told(what), 0);
        }
        check.due("its thing", x.told(5), 0);
    }

    private static void rowsOfRefused(Check check) {
        PieceShelf x = Check.shelf(100);
        x.got(0, 0, 99, 0);
        check.due("REFUSED", Check.ask(x, "bytes=100-,-0,100-100", 0), 2);
        for (int what = 0; what <= 4; what++) {
            check.due("told(" + what + ") of REFUSED", x.told(what), 0);
        }
        check.due("its thing", x.told(5), 0);
    }

    private static void places(Check check) {
        PieceShelf x = Check.shelf(100);
        Check.ask(x, "bytes=60-69,0-0,-5", 0);
        check.due("three rows", x.told(1), 16);
        Check.ask(x, "bytes=0-9,5-14,9-9", 0);
        check.due("common places count once", x.told(1), 15);
        Check.ask(x, "bytes=90-200", 0);
        check.due("only those below the length", x.told(1), 10);
        Check.answer(x, 0);
        check.due("WHOLE", x.told(1), 100);
        x.thing(0, 4095, 0);
        Check.answer(x, 0);
        check.due("the greatest", x.told(1), 4095);
    }

    private static void heldThen(Check check) {
        PieceShelf x = Check.shelf(100);
        x.got(0, 5, 14, 0);
        x.got(0, 99, 99, 0);
        Check.ask(x, "bytes=10-19,0-5", 0);
        check.due("some", x.told(2), 6);
        Check.ask(x, "bytes=5-14", 0);
        check.due("all", x.told(2), 10);
        Check.ask(x, "bytes=20-29", 0);
        check.due("none", x.told(2), 0);
        Check.ask(x, "bytes=0-9,5-14", 0);
        check.due("common places count once", x.told(2), 10);
        Check.answer(x, 0);
        check.due("of WHOLE", x.told(2), 11);
    }

    private static void plan(Check check) {
        PieceShelf x = Check.shelf(100);
        x.set(1, 3);
        x.got(0, 5, 14, 0);
        Check.ask(x, "bytes=10-19,0-5", 0);
        check.due("rows", x.told(3), 2);
        check.due("cost", x.told(4), 3 + 5 + 3 + 5);
        Check.ask(x, "bytes=5-14", 0);
        check.due("rows, if all is held", x.told(3), 0);
        check.due("cost, if all is held", x.told(4), 0);
        x.thing(0, 4095, 0);
        x.set(1, 1000);
        Check.answer(x, 0);
        check.due("greatest cost of a row", x.told(4), 5095);
    }

    private static void itsThing(Check check) {
        PieceShelf x = new PieceShelf();
        for (int t = 5; t >= 0; t--) {
            x.thing(t, 10, 0);
            Check.ask(x, t % 2 == 0 ? "bytes=10-" : "bytes=1-", t);
            check.due("its thing", x.told(5), t);
        }
    }

    private static void laterCallsDoNotMatter(Check check) {
        PieceShelf x = Check.shelf(100);
        x.got(0, 0, 9, 0);
        Check.ask(x, "bytes=0-19,50-59", 0);
        String before = told(x);
        x.got(0, 10, 14, 0);
        check.due("behind got", told(x), before);
        x.set(1, 7);
        check.due("behind another COST", told(x), before);
        x.set(0, 0);
        check.due("behind no ROOM", told(x), before);
        Check.type(x, "bytes=1-2");
        check.due("behind type", told(x), before);
        x.thing(0, 5, 1);
        check.due("behind thing", told(x), before);
        x.forget(0);
        check.due("behind forget", told(x), before);
    }

    private static String told(PieceShelf x) {
        StringBuilder b = new StringBuilder();
        for (int what = 0; what < 6; what++) {
            b.append(x.told(what)).append(' ');
        }
        return b.toString();
    }

    private static void anotherWhat(Check check) {
        PieceShelf x = Twins.busy();
        for (int what : new int[] {-1, -2, 6, 7, 256, Integer.MIN_VALUE, Integer.MAX_VALUE}) {
            check.due("told(" + what + ")", x.told(what), -1);
        }
    }

    private static void withoutAnAnswer(Check check) {
        PieceShelf x = Check.shelf(10);
        x.got(0, 0, 4, 0);
        Check.type(x, "bytes=0-");
        for (int what = -1; what <= 6; what++) {
            check.due("told(" + what + ")", x.told(what), -1);
        }
    }
}
