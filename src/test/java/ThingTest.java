/** Promise 3: thing. */
public final class ThingTest {
    public static void main(String[] args) {
        Check check = new Check();
        check.sentence("A THING has this LENGTH and TAG", ThingTest::lengthAndTag);
        check.sentence("LENGTH (0 .. 4095 ..)", ThingTest::leastAndGreatestLength);
        check.sentence("THINGS 0 .. 5", ThingTest::firstAndLastThing);
        check.sentence("what is HELD stays, if both are as they were", ThingTest::sameKeeps);
        check.sentence("else nothing is: another LENGTH", ThingTest::anotherLengthDrops);
        check.sentence("else nothing is: another TAG", ThingTest::anotherTagDrops);
        check.sentence("a TAG (an int ..)", ThingTest::anyTag);
        check.sentence("false, changing nothing, if there is no such THING", ThingTest::noSuchThing);
        check.sentence("false, changing nothing, if there is no such .. LENGTH", ThingTest::noSuchLength);
        check.end();
    }

    private static PieceShelf withPieces() {
        PieceShelf x = new PieceShelf();
        x.thing(2, 100, 5);
        x.thing(3, 100, 5);
        x.got(2, 10, 19, 5);
        x.got(2, 30, 30, 5);
        x.got(3, 0, 6, 5);
        return x;
    }

    private static void lengthAndTag(Check check) {
        PieceShelf x = new PieceShelf();
        check.due("thing(1, 70, 9)", x.thing(1, 70, 9), true);
        check.due("length", x.about(1, 0), 70);
        check.due("got with the tag", x.got(1, 69, 69, 9), 1);
        check.due("got with another tag", x.got(1, 68, 68, 0), -1);
        check.due("got at the length", x.got(1, 70, 70, 9), -1);
        check.due("another thing's length", x.about(0, 0), -1);
    }

    private static void leastAndGreatestLength(Check check) {
        PieceShelf x = new PieceShelf();
        check.due("length 0", x.thing(0, 0, 0), true);
        check.due("length 0", x.about(0, 0), 0);
        check.due("length 0 is known", Check.answer(x, 0), 0);
        check.due("length 4095", x.thing(0, 4095, 0), true);
        check.due("length 4095", x.about(0, 0), 4095);
        check.due("all of it comes", x.got(0, 0, 4094, 0), 4095);
    }

    private static void firstAndLastThing(Check check) {
        PieceShelf x = new PieceShelf();
        for (int t = 0; t < 6; t++) {
            check.due("thing(" + t + ", ..)", x.thing(t, 10 + t, t), true);
        }
        for (int t = 0; t < 6; t++) {
            check.due("length of " + t, x.about(t, 0), 10 + t);
            check.due("got of " + t, x.got(t, 0, t, t), t + 1);
        }
        check.counts("each its own", x, 1, 2, 3, 4, 5, 6);
    }

    private static void sameKeeps(Check check) {
        PieceShelf x = withPieces();
        check.due("the same", x.thing(2, 100, 5), true);
        check.spans("the same", x, 2, 10, 19, 30, 30);
        x.thing(4, 0, 0);
        check.due("the same length of 0", x.thing(4, 0, 0), true);
        check.due("the same length of 0", x.about(4, 0), 0);
    }

    private static void anotherLengthDrops(Check check) {
        for (int length : new int[] {99, 101, 31, 20, 0, 4095}) {
            PieceShelf x = withPieces();
            check.due("length " + length, x.thing(2, length, 5), true);
            check.due("length", x.about(2, 0), length);
            check.spans("dropped", x, 2);
            check.due("held(2, 10)", x.held(2, 10), false);
            check.spans("another thing keeps its own", x, 3, 0, 6);
            x.thing(2, 100, 5);
            check.spans("the old length brings nothing back", x, 2);
        }
    }

    private static void anotherTagDrops(Check check) {
        for (int tag : new int[] {4, 6, 0, -5, 5 + 65536, Integer.MIN_VALUE, Integer.MAX_VALUE}) {
            PieceShelf x = withPieces();
            check.due("tag " + tag, x.thing(2, 100, tag), true);
            check.due("length", x.about(2, 0), 100);
            check.spans("dropped", x, 2);
            check.due("the old tag", x.got(2, 0, 0, 5), -1);
            check.due("the new tag", x.got(2, 0, 0, tag), 1);
            check.spans("another thing keeps its own", x, 3, 0, 6);
            x.thing(2, 100, 5);
            check.spans("the old tag drops too", x, 2);
        }
    }

    private static void anyTag(Check check) {
        for (int tag : new int[] {0, 1, -1, Integer.MIN_VALUE, Integer.MAX_VALUE}) {
            PieceShelf x = new PieceShelf();
            check.due("tag " + tag, x.thing(0, 9, tag), true);
            check.due("got with tag " + tag, x.got(0, 0, 8, tag), 9);
            check.due("got with tag " + ~tag, x.got(0, 0, 8, ~tag), -1);
        }
    }

    private static void noSuchThing(Check check) {
        for (int t : Check.NO_THINGS) {
            Twins.changesNothing(check, "thing(" + t + ", 10, 5)", 0, x -> Twins.number(x.thing(t, 10, 5)));
        }
    }

    private static void noSuchLength(Check check) {
        for (int length : new int[] {-1, -2, 4096, 4097, 65536, 65636, Integer.MIN_VALUE, Integer.MAX_VALUE}) {
            for (int tag : new int[] {5, 8}) {
                String name = "thing(0, " + length + ", " + tag + ")";
                Twins.changesNothing(check, name, 0, x -> Twins.number(x.thing(0, length, tag)));
            }
            Twins.changesNothing(check, "thing(4, " + length + ", 0)", 0, x -> Twins.number(x.thing(4, length, 0)));
        }
    }
}
