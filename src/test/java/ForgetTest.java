/** Promise 4: forget. */
public final class ForgetTest {
    public static void main(String[] args) {
        Check check = new Check();
        check.sentence("The LENGTH of a THING is not known any more", ForgetTest::lengthIsGone);
        check.sentence("nothing of it is HELD", ForgetTest::nothingIsHeld);
        check.sentence("what was answered stays, also of a THING that is forgotten", ForgetTest::answerStays);
        check.sentence("true, also if the LENGTH was not known", ForgetTest::twice);
        check.sentence("false if there is none such", ForgetTest::noSuchThing);
        check.end();
    }

    private static PieceShelf withPieces() {
        PieceShelf x = new PieceShelf();
        for (int t = 0; t < 6; t++) {
            x.thing(t, 100, 5);
            x.got(t, 10, 19, 5);
        }
        return x;
    }

    private static void lengthIsGone(Check check) {
        for (int t = 0; t < 6; t++) {
            PieceShelf x = withPieces();
            check.due("forget(" + t + ")", x.forget(t), true);
            check.due("length", x.about(t, 0), -1);
            check.due("first missing", x.about(t, 3), -1);
            check.due("got", x.got(t, 0, 0, 5), -1);
            check.due("answer", Check.answer(x, t), Check.BAD_ARGUMENT);
            for (int other = 0; other < 6; other++) {
                check.due("length of " + other, x.about(other, 0), other == t ? -1 : 100);
            }
        }
    }

    private static void nothingIsHeld(Check check) {
        PieceShelf x = withPieces();
        x.forget(2);
        check.counts("2 is forgotten", x, 10, 10, 0, 10, 10, 10);
        check.due("spans", x.about(2, 2), 0);
        check.due("held(2, 10)", x.held(2, 10), false);
        x.thing(2, 100, 5);
        check.counts("known again, nothing is held", x, 10, 10, 0, 10, 10, 10);
        x.set(0, 60);
        x.got(2, 0, 9, 5);
        check.counts("what was forgotten needs no room", x, 10, 10, 10, 10, 10, 10);
    }

    private static void answerStays(Check check) {
        PieceShelf x = withPieces();
        Check.ask(x, "bytes=0-14", 2);
        x.forget(2);
        check.rows("behind forget", x, 0, 14);
        check.fetches("behind forget", x, 110, 0, 9);
        check.due("held then", x.told(2), 5);
        check.due("its thing", x.told(5), 2);
    }

    private static void twice(Check check) {
        PieceShelf x = withPieces();
        x.forget(2);
        check.due("again", x.forget(2), true);
        check.due("length", x.about(2, 0), -1);
        check.due("of a new object", new PieceShelf().forget(0), true);
    }

    private static void noSuchThing(Check check) {
        for (int t : Check.NO_THINGS) {
            Twins.changesNothing(check, "forget(" + t + ")", 0, x -> Twins.number(x.forget(t)));
        }
    }
}
