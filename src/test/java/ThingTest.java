/** Promises 3, 4, 11 and 12: thing, forget, about, held. */
public final class ThingTest {
    private static final int[] NO_THINGS = {-1, 6, 7, Integer.MIN_VALUE, Integer.MAX_VALUE};

    public static void main(String[] args) {
        Check check = new Check();
        thingKeepsOrDrops(check);
        wrongThings(check);
        forgetting(check);
        aboutAThing(check);
        heldPlaces(check);
        check.end();
    }

    private static PieceShelf withPieces() {
        PieceShelf x = new PieceShelf();
        x.thing(2, 100, 5);
        x.got(2, 10, 19, 5);
        x.got(2, 30, 30, 5);
        return x;
    }

    private static void thingKeepsOrDrops(Check check) {
        PieceShelf x = withPieces();
        check.due("the same", x.thing(2, 100, 5), true);
        check.due("the same keeps", x.about(2, 1), 11);
        check.due("another tag", x.thing(2, 100, 6), true);
        check.due("another tag drops", x.about(2, 1), 0);
        check.due("another tag keeps the length", x.about(2, 0), 100);
        check.due("the old tag", x.got(2, 0, 0, 5), -1);
        check.due("the new tag", x.got(2, 0, 0, 6), 1);
        check.due("another length", x.thing(2, 99, 6), true);
        check.due("another length drops", x.about(2, 1), 0);
        check.due("another length is known", x.about(2, 0), 99);
        check.due("a greater length", withPieces().thing(2, 101, 5), true);
        check.due("tags may be any int", x.thing(2, 9, Integer.MIN_VALUE), true);
        check.due("tags may be any int", x.got(2, 0, 8, Integer.MIN_VALUE), 9);
    }

    private static void wrongThings(Check check) {
        PieceShelf x = withPieces();
        for (int t : NO_THINGS) {
            check.due("thing(" + t + ")", x.thing(t, 10, 0), false);
        }
        for (int length : new int[] {-1, 4096, Integer.MIN_VALUE, Integer.MAX_VALUE}) {
            check.due("length " + length, x.thing(2, length, 7), false);
        }
        check.due("nothing changed", x.about(2, 0), 100);
        check.due("nothing changed", x.about(2, 1), 11);
        check.due("nothing changed", x.got(2, 0, 0, 5), 1);
        check.due("length 0", x.thing(2, 0, 5), true);
        check.due("length 4095", x.thing(5, 4095, 5), true);
        check.due("length 4095", x.about(5, 0), 4095);
    }

    private static void forgetting(Check check) {
        PieceShelf x = withPieces();
        x.thing(3, 50, 1);
        x.got(3, 0, 9, 1);
        check.due("forget(2)", x.forget(2), true);
        check.due("length", x.about(2, 0), -1);
        check.due("held", x.about(2, 1), 0);
        check.due("held(2, 10)", x.held(2, 10), false);
        check.due("got", x.got(2, 0, 0, 5), -1);
        check.due("the other stays", x.about(3, 1), 10);
        check.due("again", x.forget(2), true);
        x.thing(2, 100, 5);
        check.due("known again, but nothing held", x.about(2, 1), 0);
        for (int t : NO_THINGS) {
            check.due("forget(" + t + ")", x.forget(t), false);
        }
        check.due("the other stays", x.about(3, 1), 10);
    }

    private static void aboutAThing(Check check) {
        PieceShelf x = withPieces();
        check.due("length", x.about(2, 0), 100);
        check.due("held", x.about(2, 1), 11);
        check.due("spans", x.about(2, 2), 2);
        check.due("first missing", x.about(2, 3), 0);
        x.got(2, 0, 9, 5);
        check.due("first missing", x.about(2, 3), 20);
        check.due("spans grown together", x.about(2, 2), 2);
        x.got(2, 20, 29, 5);
        check.due("one span", x.about(2, 2), 1);
        x.got(2, 20, 99, 5);
        check.due("nothing missing", x.about(2, 3), -1);
        check.due("all held", x.about(2, 1), 100);
        x.thing(2, 0, 5);
        check.due("empty thing: length", x.about(2, 0), 0);
        check.due("empty thing: first missing", x.about(2, 3), -1);
        x.thing(2, 4095, 5);
        x.got(2, 0, 4093, 5);
        check.due("only the last missing", x.about(2, 3), 4094);
        x.got(2, 4094, 4094, 5);
        check.due("none of 4095 missing", x.about(2, 3), -1);
        check.due("4095 in one span", x.about(2, 2), 1);
        for (int what : new int[] {-1, 4, Integer.MIN_VALUE, Integer.MAX_VALUE}) {
            check.due("about(2, " + what + ")", x.about(2, what), -1);
        }
        for (int t : NO_THINGS) {
            for (int what = 0; what < 4; what++) {
                check.due("about(" + t + ", " + what + ")", x.about(t, what), -1);
            }
        }
    }

    private static void heldPlaces(Check check) {
        PieceShelf x = withPieces();
        for (int place = -70; place < 5000; place++) {
            boolean want = place >= 10 && place <= 19 || place == 30;
            check.due("held(2, " + place + ")", x.held(2, place), want);
            check.due("held(1, " + place + ")", x.held(1, place), false);
        }
        check.due("least place", x.held(2, Integer.MIN_VALUE), false);
        check.due("greatest place", x.held(2, Integer.MAX_VALUE), false);
        for (int t : NO_THINGS) {
            check.due("held(" + t + ", 10)", x.held(t, 10), false);
        }
    }
}
