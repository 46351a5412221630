/** Promise 12: held. */
public final class HeldTest {
    public static void main(String[] args) {
        Check check = new Check();
        check.sentence("Whether a place of a THING is HELD", HeldTest::heldPlaces);
        check.sentence("places from 0 on, below LENGTH", HeldTest::firstAndLastPlace);
        check.sentence("a place that is none is not HELD", HeldTest::noPlaces);
        check.sentence("a THING that is none holds nothing", HeldTest::noThings);
        check.sentence("what went is not HELD", HeldTest::whatWent);
        check.end();
    }

    private static PieceShelf withPieces() {
        PieceShelf x = new PieceShelf();
        x.thing(2, 4095, 5);
        x.got(2, 10, 19, 5);
        x.got(2, 30, 30, 5);
        return x;
    }

    private static void heldPlaces(Check check) {
        PieceShelf x = withPieces();
        for (int place = 0; place < 4095; place++) {
            boolean want = place >= 10 && place <= 19 || place == 30;
            check.due("held(2, " + place + ")", x.held(2, place), want);
            check.due("held(1, " + place + ")", x.held(1, place), false);
        }
    }

    private static void firstAndLastPlace(Check check) {
        for (int length : new int[] {1, 64, 100, 4095}) {
            PieceShelf x = Check.shelf(length);
            check.due("held(0, 0)", x.held(0, 0), false);
            x.got(0, 0, length - 1, 0);
            check.due("held(0, -1)", x.held(0, -1), false);
            check.due("held(0, 0)", x.held(0, 0), true);
            check.due("the last place", x.held(0, length - 1), true);
            check.due("the place behind it", x.held(0, length), false);
        }
    }

    private static void noPlaces(Check check) {
        PieceShelf x = withPieces();
        x.got(2, 0, 4094, 5);
        int[] places = {-1, -54, -64, -4086, 4095, 4096, 4097, 4106, 8192, 65536, Integer.MIN_VALUE, Integer.MIN_VALUE + 10};
        for (int place : places) {
            check.due("held(2, " + place + ")", x.held(2, place), false);
        }
        check.due("greatest place", x.held(2, Integer.MAX_VALUE), false);
        check.due("of a length of 0", Check.shelf(0).held(0, 0), false);
        check.due("of an unknown length", new PieceShelf().held(0, 0), false);
    }

    private static void noThings(Check check) {
        PieceShelf x = withPieces();
        for (int t : Check.NO_THINGS) {
            check.due("held(" + t + ", 10)", x.held(t, 10), false);
            check.due("held(" + t + ", -1)", x.held(t, -1), false);
        }
    }

    private static void whatWent(Check check) {
        PieceShelf x = withPieces();
        x.set(0, 10);
        check.due("for ROOM", x.held(2, 30), false);
        check.due("what is left", x.held(2, 19), true);
        x.forget(2);
        check.due("by forget", x.held(2, 19), false);
        PieceShelf y = withPieces();
        y.thing(2, 4094, 5);
        check.due("by thing", y.held(2, 10), false);
    }
}
