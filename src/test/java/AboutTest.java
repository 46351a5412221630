/** Promise 11: about. */
public final class AboutTest {
    public static void main(String[] args) {
        Check check = new Check();
        check.sentence("what 0: LENGTH", AboutTest::length);
        check.sentence("LENGTH (NONE: not known)", AboutTest::lengthNotKnown);
        check.sentence("1: how many bytes are HELD", AboutTest::heldBytes);
        check.sentence("2: in how many SPANS", AboutTest::spans);
        check.sentence("SPANS .. as long as they can be", AboutTest::spansGrowTogether);
        check.sentence("3: the place at which the first one that is not HELD is", AboutTest::firstMissing);
        check.sentence("below LENGTH (NONE: there is none ..)", AboutTest::noneMissing);
        check.sentence("(NONE: .. LENGTH is not known)", AboutTest::missingOfUnknown);
        check.sentence("NONE for another what", AboutTest::anotherWhat);
        check.sentence("NONE for .. no such THING", AboutTest::noSuchThing);
        check.end();
    }

    private static void length(Check check) {
        PieceShelf x = new PieceShelf();
        for (int length : new int[] {0, 1, 100, 4094, 4095}) {
            for (int t = 0; t < 6; t++) {
                x.thing(t, length, 0);
                check.due("about(" + t + ", 0)", x.about(t, 0), length);
            }
        }
    }

    private static void lengthNotKnown(Check check) {
        PieceShelf x = new PieceShelf();
        check.due("never known", x.about(0, 0), -1);
        x.thing(0, 10, 0);
        x.forget(0);
        check.due("forgotten", x.about(0, 0), -1);
    }

    private static void heldBytes(Check check) {
        PieceShelf x = Check.shelf(4095);
        check.due("none", x.about(0, 1), 0);
        x.got(0, 10, 10, 0);
        check.due("one", x.about(0, 1), 1);
        x.got(0, 5, 14, 0);
        check.due("ten", x.about(0, 1), 10);
        x.got(0, 0, 4094, 0);
        check.due("all", x.about(0, 1), 4095);
        x.set(0, 3000);
        check.due("behind a smaller ROOM", x.about(0, 1), 3000);
        x.forget(0);
        check.due("of an unknown length", x.about(0, 1), 0);
    }

    private static void spans(Check check) {
        PieceShelf x = Check.shelf(4095);
        check.due("none", x.about(0, 2), 0);
        for (int k = 0; k < 100; k++) {
            x.got(0, 41 * k, 41 * k + k % 3, 0);
            check.due("spans", x.about(0, 2), k + 1);
        }
        x.got(0, 4094, 4094, 0);
        check.due("up to the last place", x.about(0, 2), 101);
        x.forget(0);
        check.due("of an unknown length", x.about(0, 2), 0);
    }

    private static void spansGrowTogether(Check check) {
        PieceShelf x = Check.shelf(4095);
        x.got(0, 10, 19, 0);
        x.got(0, 20, 29, 0);
        check.due("one behind the other", x.about(0, 2), 1);
        x.got(0, 31, 63, 0);
        check.due("a place between", x.about(0, 2), 2);
        x.got(0, 64, 127, 0);
        check.due("over the end of a word", x.about(0, 2), 2);
        x.got(0, 30, 30, 0);
        check.due("the place between", x.about(0, 2), 1);
        x.got(0, 0, 4094, 0);
        check.due("all", x.about(0, 2), 1);
    }

    private static void firstMissing(Check check) {
        PieceShelf x = Check.shelf(200);
        check.due("nothing held", x.about(0, 3), 0);
        x.got(0, 1, 9, 0);
        check.due("0 not held", x.about(0, 3), 0);
        x.got(0, 0, 0, 0);
        check.due("0 held", x.about(0, 3), 10);
        x.got(0, 20, 29, 0);
        check.due("a gap", x.about(0, 3), 10);
        x.got(0, 10, 62, 0);
        check.due("before the end of a word", x.about(0, 3), 63);
        x.got(0, 63, 63, 0);
        check.due("at the end of a word", x.about(0, 3), 64);
        x.got(0, 64, 198, 0);
        check.due("the last place", x.about(0, 3), 199);
    }

    private static void noneMissing(Check check) {
        for (int length : new int[] {1, 63, 64, 65, 200, 4094, 4095}) {
            PieceShelf x = Check.shelf(length);
            x.got(0, 0, length - 1, 0);
            check.due("all of " + length, x.about(0, 3), -1);
            x.set(0, length - 1);
            check.due("all but the last of " + length, x.about(0, 3), length - 1);
        }
        check.due("of a length of 0", Check.shelf(0).about(0, 3), -1);
    }

    private static void missingOfUnknown(Check check) {
        PieceShelf x = new PieceShelf();
        check.due("never known", x.about(0, 3), -1);
        x.thing(0, 10, 0);
        x.got(0, 0, 4, 0);
        x.forget(0);
        check.due("forgotten", x.about(0, 3), -1);
    }

    private static void anotherWhat(Check check) {
        PieceShelf x = Twins.busy();
        for (int what : new int[] {-1, -2, 4, 5, 256, Integer.MIN_VALUE, Integer.MAX_VALUE}) {
            for (int t = 0; t < 6; t++) {
                check.due("about(" + t + ", " + what + ")", x.about(t, what), -1);
            }
        }
    }

    private static void noSuchThing(Check check) {
        PieceShelf x = Twins.busy();
        for (int t : Check.NO_THINGS) {
            for (int what = -1; what <= 4; what++) {
                check.due("about(" + t + ", " + what + ")", x.about(t, what), -1);
            }
        }
    }
}
