/** Terms: USE, and what goes when more than ROOM is HELD. */
public final class RoomTest {
    public static void main(String[] args) {
        Check check = new Check();
        check.sentence("When more than ROOM is HELD", RoomTest::notBefore);
        check.sentence("ROOM .. is how many bytes of all THINGS may be HELD", RoomTest::ofAllThings);
        check.sentence("of the THING that was USED longest ago", RoomTest::longestAgo);
        check.sentence("of those that have some", RoomTest::ofThoseThatHaveSome);
        check.sentence("the last place that is HELD goes", RoomTest::lastPlaceGoes);
        check.sentence("until that is no more so", RoomTest::untilThereIsRoom);
        check.sentence("an ANSWER that is WHOLE .. makes its THING the one that was USED last", RoomTest::wholeIsUse);
        check.sentence("an ANSWER that is .. PARTIAL makes its THING the one that was USED last", RoomTest::partialIsUse);
        check.sentence("so does got()", RoomTest::gotIsUse);
        check.sentence("an ANSWER that is REFUSED is no USE", RoomTest::refusedIsNoUse);
        check.sentence("a got() that answers NONE, changing nothing, is no USE", RoomTest::failedGotIsNoUse);
        check.sentence("other calls are no USE", RoomTest::otherCallsAreNoUse);
        check.sentence("what is HELD no more needs no ROOM", RoomTest::whatWentNeedsNoRoom);
        check.sentence("An object is used for at most 512 calls", RoomTest::useOverManyCalls);
        check.end();
    }

    /** Three things with 20 bytes each; used first was 2, then 0, then 1. */
    private static PieceShelf full(int room) {
        PieceShelf x = new PieceShelf();
        for (int t = 0; t < 3; t++) {
            x.thing(t, 100, t);
        }
        x.set(0, room);
        x.got(2, 0, 19, 2);
        x.got(0, 0, 19, 0);
        x.got(1, 0, 19, 1);
        return x;
    }

    private static void notBefore(Check check) {
        PieceShelf x = full(61);
        check.counts("one below ROOM", x, 20, 20, 20);
        x.got(1, 20, 20, 1);
        check.counts("as much as ROOM", x, 20, 21, 20);
        x.got(1, 21, 21, 1);
        check.counts("one above ROOM", x, 20, 22, 19);
        x.got(1, 0, 21, 1);
        check.counts("nothing new came", x, 20, 22, 19);
    }

    private static void ofAllThings(Check check) {
        PieceShelf x = new PieceShelf();
        x.set(0, 60);
        for (int t = 0; t < 6; t++) {
            x.thing(t, 100, t);
            x.got(t, 0, 9, t);
        }
        check.counts("six things", x, 10, 10, 10, 10, 10, 10);
        for (int t = 5; t >= 0; t--) {
            x.got(t, 10, 19, t);
        }
        check.counts("six things anew", x, 10, 10, 10, 20, 10, 0);
    }

    private static void longestAgo(Check check) {
        PieceShelf x = full(60);
        x.got(1, 20, 24, 1);
        check.counts("2 was used longest ago", x, 20, 25, 15);
        x.got(2, 0, 0, 2);
        x.got(1, 25, 29, 1);
        check.counts("then it is 0", x, 15, 30, 15);
        x.got(0, 0, 0, 0);
        x.got(2, 15, 19, 2);
        check.counts("then it is 1", x, 15, 25, 20);
    }

    private static void ofThoseThatHaveSome(Check check) {
        PieceShelf x = full(60);
        x.thing(4, 100, 4);
        x.thing(2, 99, 2);
        check.counts("2 has nothing", x, 20, 20, 0);
        x.got(1, 20, 44, 1);
        check.counts("so it is 0", x, 15, 45, 0);
        x.forget(0);
        x.got(1, 45, 69, 1);
        check.counts("0 has nothing, so it is 1 itself", x, 0, 60, 0);
        check.spans("its last places went", x, 1, 0, 59);
    }

    private static void lastPlaceGoes(Check check) {
        PieceShelf x = new PieceShelf();
        x.set(0, 40);
        x.thing(0, 4095, 0);
        x.thing(1, 4095, 0);
        x.got(0, 4085, 4094, 0);
        x.got(0, 60, 69, 0);
        x.got(0, 0, 9, 0);
        x.got(1, 0, 10, 0);
        check.spans("the last, not the latest", x, 0, 0, 9, 60, 69, 4085, 4093);
        x.got(1, 11, 18, 0);
        check.spans("up to the first of a span", x, 0, 0, 9, 60, 69, 4085, 4085);
        x.got(1, 19, 19, 0);
        check.spans("a whole span", x, 0, 0, 9, 60, 69);
        x.got(1, 20, 27, 0);
        check.spans("over a gap", x, 0, 0, 9, 60, 61);
        x.got(1, 28, 38, 0);
        check.spans("down to the first place", x, 0, 0, 0);
        x.got(1, 39, 39, 0);
        check.spans("all of it", x, 0);
    }

    private static void untilThereIsRoom(Check check) {
        PieceShelf x = full(60);
        check.due("all came", x.got(1, 20, 59, 1), 40);
        check.counts("2 and 0 go, and no more", x, 0, 60, 0);
        PieceShelf y = full(60);
        y.set(0, 25);
        check.counts("2 goes, and some of 0", y, 5, 20, 0);
        sixThingsGo(check, 1);
        sixThingsGo(check, 0);
    }

    /** One call may have to empty every thing there is. */
    private static void sixThingsGo(Check check, int room) {
        PieceShelf x = new PieceShelf();
        for (int t = 5; t >= 0; t--) {
            x.thing(t, 100, 0);
            x.got(t, 7, 17, 0);
        }
        x.set(0, room);
        check.counts("all go but " + room, x, room, 0, 0, 0, 0, 0);
    }

    /** After the call the thing 2 is the one used last, so that 0 and then 1 give room. */
    private static void isUse(Check check, String name, PieceShelf x) {
        x.set(0, 35);
        check.counts(name + ": 0 goes first", x, 0, 15, 20);
        x.set(0, 15);
        check.counts(name + ": then 1", x, 0, 0, 15);
    }

    private static void isNoUse(Check check, String name, PieceShelf x) {
        x.set(0, 35);
        check.counts(name + ": 2 goes first", x, 15, 20, 0);
        x.set(0, 15);
        check.counts(name + ": then 0", x, 0, 15, 0);
    }

    private static void wholeIsUse(Check check) {
        PieceShelf x = full(60);
        check.due("WHOLE", Check.answer(x, 2), 0);
        isUse(check, "WHOLE", x);
        PieceShelf y = full(60);
        check.due("WHOLE", Check.ask(y, "bytes=3-2", 2), 0);
        isUse(check, "WHOLE", y);
    }

    private static void partialIsUse(Check check) {
        PieceShelf x = full(60);
        check.due("PARTIAL", Check.ask(x, "bytes=0-0", 2), 1);
        isUse(check, "PARTIAL of what is held", x);
        PieceShelf y = full(60);
        check.due("PARTIAL", Check.ask(y, "bytes=100-,99-", 2), 1);
        isUse(check, "PARTIAL of what is not held", y);
    }

    private static void gotIsUse(Check check) {
        PieceShelf x = full(60);
        check.due("got of what is there", x.got(2, 0, 0, 2), 0);
        isUse(check, "got of what is there", x);
        PieceShelf y = full(61);
        check.due("got of one more", y.got(2, 20, 20, 2), 1);
        y.set(0, 35);
        check.counts("got of one more", y, 0, 14, 21);
        PieceShelf z = full(60);
        check.due("got of one too many", z.got(2, 20, 20, 2), 1);
        check.counts("the use comes before the room is made", z, 19, 20, 21);
    }

    private static void refusedIsNoUse(Check check) {
        for (String text : new String[] {"bytes=100-", "bytes=-0", "bytes=100-200,-0"}) {
            PieceShelf x = full(60);
            check.due("REFUSED", Check.ask(x, text, 2), 2);
            isNoUse(check, "REFUSED", x);
        }
    }

    private static void failedGotIsNoUse(Check check) {
        int[][] wrong = {{0, 1, 9}, {-1, 1, 2}, {2, 1, 2}, {0, 100, 2}};
        for (int[] w : wrong) {
            PieceShelf x = full(60);
            check.due("got", x.got(2, w[0], w[1], w[2]), -1);
            isNoUse(check, "got(2, " + w[0] + ", " + w[1] + ", " + w[2] + ")", x);
        }
    }

    private static void otherCallsAreNoUse(Check check) {
        PieceShelf x = full(60);
        x.thing(2, 100, 2);
        for (int what = 0; what < 4; what++) {
            x.about(2, what);
        }
        x.held(2, 0);
        x.type('x', 1);
        check.due("an answer that throws", Check.answer(x, 3), Check.BAD_ARGUMENT);
        x.set(0, 60);
        x.set(1, 3);
        isNoUse(check, "other calls", x);
        PieceShelf y = full(60);
        Check.answer(y, 2);
        y.got(0, 0, 0, 0);
        for (int what = 0; what < 6; what++) {
            y.told(what);
        }
        Check.row(y, 0, false);
        Check.fetch(y, 0, false);
        y.set(0, 35);
        check.counts("1, then 2, then 0 was used", y, 20, 0, 15);
    }

    private static void whatWentNeedsNoRoom(Check check) {
        PieceShelf x = full(60);
        x.forget(0);
        x.got(1, 20, 39, 1);
        check.counts("forgotten", x, 0, 40, 20);
        x.thing(1, 100, 9);
        x.got(1, 0, 39, 9);
        check.counts("of another tag", x, 0, 40, 20);
        x.thing(1, 99, 9);
        x.got(1, 0, 39, 9);
        check.counts("of another length", x, 0, 40, 20);
        x.got(1, 40, 40, 9);
        check.counts("full again", x, 0, 41, 19);
    }

    private static void useOverManyCalls(Check check) {
        PieceShelf x = full(60);
        for (int k = 0; k < 160; k++) {
            x.got(0, 0, 0, 0);
            x.got(1, 0, 0, 1);
            x.got(2, 0, 0, 2);
        }
        x.got(1, 0, 0, 1);
        x.set(0, 45);
        check.counts("0 goes first", x, 5, 20, 20);
        x.set(0, 30);
        check.counts("then 2", x, 0, 20, 10);
    }
}
