/** Promise 5: got. */
public final class GotTest {
    public static void main(String[] args) {
        Check check = new Check();
        check.sentence("Places a .. b of a THING came, ..: they are HELD then", GotTest::placesCome);
        check.sentence("how many were not before", GotTest::howManyWereNot);
        check.sentence("places from 0 on, below LENGTH", GotTest::firstAndLastPlace);
        check.sentence("NONE, changing nothing, if there is no such THING", GotTest::noSuchThing);
        check.sentence("NONE, changing nothing, if .. the LENGTH isn't known", GotTest::unknownLength);
        check.sentence("NONE, changing nothing, if .. the TAG is another one", GotTest::anotherTag);
        check.sentence("NONE, changing nothing, if .. a is below 0", GotTest::belowZero);
        check.sentence("NONE, changing nothing, if .. a is .. above b", GotTest::aAboveB);
        check.sentence("NONE, changing nothing, if .. b not below LENGTH", GotTest::bNotBelowLength);
        check.sentence("What goes for ROOM goes behind that; it may be some of these", GotTest::someOfTheseGo);
        check.end();
    }

    private static void placesCome(Check check) {
        int[][] pieces = {{0, 0}, {1, 1}, {0, 63}, {63, 64}, {64, 64}, {64, 127}, {5, 200}, {127, 128}, {4030, 4094}, {0, 4094}};
        for (int[] p : pieces) {
            PieceShelf x = Check.shelf(4095);
            check.due("got(0, " + p[0] + ", " + p[1] + ", 0)", x.got(0, p[0], p[1], 0), p[1] - p[0] + 1);
            check.spans("came", x, 0, p[0], p[1]);
            check.counts("others have nothing", x, p[1] - p[0] + 1, 0, 0, 0, 0, 0);
        }
    }

    private static void howManyWereNot(Check check) {
        PieceShelf x = Check.shelf(200);
        check.due("new", x.got(0, 60, 70, 0), 11);
        check.due("the same again", x.got(0, 60, 70, 0), 0);
        check.due("a part again", x.got(0, 65, 65, 0), 0);
        check.due("one before it", x.got(0, 59, 60, 0), 1);
        check.due("one behind it", x.got(0, 70, 71, 0), 1);
        check.due("around it", x.got(0, 50, 80, 0), 31 - 13);
        check.due("apart", x.got(0, 100, 109, 0), 10);
        check.due("over both", x.got(0, 0, 199, 0), 200 - 41);
        check.due("nothing left", x.got(0, 0, 199, 0), 0);
        check.spans("all", x, 0, 0, 199);
    }

    private static void firstAndLastPlace(Check check) {
        for (int length : new int[] {1, 2, 64, 65, 100, 4095}) {
            PieceShelf x = Check.shelf(length);
            check.due("the last of " + length, x.got(0, length - 1, length - 1, 0), 1);
            check.due("all of " + length, x.got(0, 0, length - 1, 0), length - 1);
            check.spans("all of " + length, x, 0, 0, length - 1);
        }
    }

    private static void refused(Check check, int t, int a, int b, int tag) {
        String name = "got(" + t + ", " + a + ", " + b + ", " + tag + ")";
        Twins.changesNothing(check, name, -1, x -> x.got(t, a, b, tag));
    }

    private static void noSuchThing(Check check) {
        for (int t : Check.NO_THINGS) {
            refused(check, t, 0, 0, 0);
            refused(check, t, 0, 0, 5);
        }
    }

    private static void unknownLength(Check check) {
        refused(check, 3, 0, 0, 0);
        refused(check, 5, 0, 4094, 0);
        PieceShelf x = Twins.busy();
        x.forget(0);
        check.due("got of a forgotten thing", x.got(0, 0, 0, 5), -1);
        check.due("got of a forgotten thing", x.got(0, 0, 99, 5), -1);
        check.due("nothing came", x.held(0, 0), false);
    }

    private static void anotherTag(Check check) {
        for (int tag : new int[] {4, 6, 0, -5, 5 + 65536, Integer.MIN_VALUE, Integer.MAX_VALUE}) {
            refused(check, 0, 0, 9, tag);
            refused(check, 0, 10, 19, tag);
        }
    }

    private static void belowZero(Check check) {
        for (int a : new int[] {-1, -64, -100, Integer.MIN_VALUE}) {
            refused(check, 0, a, 5, 5);
            refused(check, 0, a, 0, 5);
            refused(check, 0, a, a, 5);
        }
        refused(check, 0, -2, -1, 5);
    }

    private static void aAboveB(Check check) {
        refused(check, 0, 1, 0, 5);
        refused(check, 0, 8, 7, 5);
        refused(check, 0, 64, 63, 5);
        refused(check, 0, 99, 0, 5);
        refused(check, 0, 0, -1, 5);
        refused(check, 0, 0, Integer.MIN_VALUE, 5);
        refused(check, 0, Integer.MAX_VALUE, 99, 5);
        check.due("a as b", Twins.busy().got(0, 8, 8, 5), 1);
    }

    private static void bNotBelowLength(Check check) {
        refused(check, 0, 0, 100, 5);
        refused(check, 0, 99, 100, 5);
        refused(check, 0, 100, 100, 5);
        refused(check, 0, 0, Integer.MAX_VALUE, 5);
        refused(check, 0, Integer.MIN_VALUE, Integer.MAX_VALUE, 5);
        refused(check, 2, 4095, 4095, 7);
        refused(check, 2, 0, 4096, 7);
        check.due("b just below", Twins.busy().got(0, 99, 99, 5), 1);
        check.due("nothing of a length of 0", Check.shelf(0).got(0, 0, 0, 0), -1);
    }

    private static void someOfTheseGo(Check check) {
        PieceShelf x = Check.shelf(100);
        x.set(0, 10);
        check.due("all that came count", x.got(0, 50, 69, 0), 20);
        check.spans("the last of them went", x, 0, 50, 59);
        check.due("lower ones come", x.got(0, 0, 4, 0), 5);
        check.spans("the higher ones went", x, 0, 0, 4, 50, 54);
        check.due("higher ones come", x.got(0, 90, 99, 0), 10);
        check.spans("they went", x, 0, 0, 4, 50, 54);
        x.set(0, 0);
        check.due("without any room", x.got(0, 0, 9, 0), 10);
        check.spans("without any room", x, 0);
    }
}
