/** Promise 6: answer. What a text means and what is answered to it: TextTest and PartialTest. */
public final class AnswerTest {
    public static void main(String[] args) {
        Check check = new Check();
        check.sentence("The tape .. is answered for a THING", AnswerTest::forAThing);
        check.sentence("0 WHOLE, 1 PARTIAL, 2 REFUSED", AnswerTest::kinds);
        check.sentence("The tape (which is empty then in any case)", AnswerTest::tapeIsEmptyThen);
        check.sentence("in any case: also behind IllegalArgumentException", AnswerTest::tapeIsEmptyBehindThrow);
        check.sentence("What was answered before goes", AnswerTest::answerBeforeGoes);
        check.sentence("IllegalArgumentException: there is no such THING", AnswerTest::noSuchThing);
        check.sentence("IllegalArgumentException: .. its LENGTH isn't known", AnswerTest::unknownLength);
        check.sentence("(what was answered stays)", AnswerTest::whatWasAnsweredStays);
        check.end();
    }

    private static void forAThing(Check check) {
        for (int t = 0; t < 6; t++) {
            PieceShelf x = new PieceShelf();
            for (int other = 0; other < 6; other++) {
                x.thing(other, 10 + other, other);
            }
            x.got(t, 0, 4, t);
            check.due("answer(" + t + ")", Check.ask(x, "bytes=0-", t), 1);
            check.rows("of " + t, x, 0, 9 + t);
            check.fetches("of " + t, x, 105 + t, 5, 9 + t);
            check.due("its thing", x.told(5), t);
        }
    }

    private static void kinds(Check check) {
        PieceShelf x = Check.shelf(10);
        check.due("WHOLE", Check.ask(x, "bites=0-1", 0), 0);
        check.due("PARTIAL", Check.ask(x, "bytes=0-1", 0), 1);
        check.due("PARTIAL, though all is asked for", Check.ask(x, "bytes=0-", 0), 1);
        check.due("REFUSED", Check.ask(x, "bytes=10-", 0), 2);
        check.due("WHOLE of an empty tape", Check.answer(x, 0), 0);
    }

    private static void tapeIsEmptyThen(Check check) {
        PieceShelf x = Check.shelf(10);
        for (String text : new String[] {"bytes=8-9", "bytes=10-", "bytes", "bytes=", ""}) {
            Check.ask(x, text, 0);
            check.due("behind '" + text + "'", Check.answer(x, 0), 0);
            Check.ask(x, text, 0);
            check.due("a text behind '" + text + "'", Check.ask(x, "bytes=1-2", 0), 1);
            check.rows("a text behind '" + text + "'", x, 1, 2);
        }
    }

    private static void tapeIsEmptyBehindThrow(Check check) {
        for (int t : new int[] {-1, 6, 1}) {
            PieceShelf x = Check.shelf(10);
            check.due("answer(" + t + ")", Check.ask(x, "bytes=8-9", t), Check.BAD_ARGUMENT);
            check.due("the tape is empty", Check.answer(x, 0), 0);
            Check.ask(x, "bytes=", t);
            check.due("no text of two halves", Check.ask(x, "8-9", 0), 0);
            Check.ask(x, "7".repeat(60), t);
            check.due("sixty go in", Check.type(x, "7".repeat(60)), true);
        }
    }

    private static void answerBeforeGoes(Check check) {
        PieceShelf x = Check.shelf(100);
        x.thing(1, 0, 0);
        String six = "bytes=1-1,3-3,5-5,7-7,9-9,11-11";
        Check.ask(x, six, 0);
        Check.ask(x, "bytes=20-29", 0);
        check.rows("PARTIAL behind PARTIAL", x, 20, 29);
        check.fetches("PARTIAL behind PARTIAL", x, 110, 20, 29);
        check.due("places", x.told(1), 10);
        Check.ask(x, six, 0);
        Check.ask(x, "bytes=100-", 0);
        check.rows("REFUSED behind PARTIAL", x);
        check.fetches("REFUSED behind PARTIAL", x, 0);
        check.due("places", x.told(1), 0);
        Check.ask(x, six, 0);
        Check.answer(x, 1);
        check.rows("nothing behind PARTIAL", x);
        check.fetches("nothing behind PARTIAL", x, 0);
        check.due("its thing", x.told(5), 1);
        Check.ask(x, "bytes=5-6,6-7", 0);
        Check.ask(x, "bytes=6-7,4-5", 0);
        check.rows("a common place is no more so", x, 6, 7, 4, 5);
    }

    private static void noSuchThing(Check check) {
        for (int t : Check.NO_THINGS) {
            check.due("answer(" + t + ")", Check.answer(Twins.busy(), t), Check.BAD_ARGUMENT);
            check.due("answer(" + t + ") of a new object", Check.answer(new PieceShelf(), t), Check.BAD_ARGUMENT);
        }
    }

    private static void unknownLength(Check check) {
        PieceShelf x = Check.shelf(10);
        for (int t = 1; t < 6; t++) {
            check.due("never known", Check.ask(x, "bytes=0-1", t), Check.BAD_ARGUMENT);
        }
        x.forget(0);
        check.due("forgotten", Check.ask(x, "bytes=0-1", 0), Check.BAD_ARGUMENT);
        check.due("forgotten, and no text", Check.answer(x, 0), Check.BAD_ARGUMENT);
        x.thing(0, 0, 0);
        check.due("0 is a length", Check.answer(x, 0), 0);
    }

    private static void whatWasAnsweredStays(Check check) {
        PieceShelf x = Twins.busy();
        String before = Twins.state(x);
        for (int t : new int[] {-1, 6, 3, 5, Integer.MIN_VALUE, Integer.MAX_VALUE}) {
            check.due("answer(" + t + ")", Check.ask(x, "bytes=3-4", t), Check.BAD_ARGUMENT);
            check.due("the shelf", Twins.state(x), before);
        }
        PieceShelf y = new PieceShelf();
        Check.answer(y, 0);
        check.due("nor is there one if there was none", y.told(5), -1);
        check.due("nor is there one if there was none", y.told(0), -1);
    }
}
