/** Promise 10: set. */
public final class SetTest {
    public static void main(String[] args) {
        Check check = new Check();
        check.sentence("What 0: ROOM", SetTest::room);
        check.sentence("ROOM (0 .. 20000 ..): the least", SetTest::leastRoom);
        check.sentence("ROOM (0 .. 20000 ..): the greatest", SetTest::greatestRoom);
        check.sentence("1: COST", SetTest::cost);
        check.sentence("COST (0 .. 1000 ..)", SetTest::leastAndGreatestCost);
        check.sentence("false, changing nothing, for a number that can't be: ROOM", SetTest::noSuchRoom);
        check.sentence("false, changing nothing, for a number that can't be: COST", SetTest::noSuchCost);
        check.sentence("false, changing nothing, for .. another what", SetTest::anotherWhat);
        check.end();
    }

    private static void room(Check check) {
        PieceShelf x = Check.shelf(100);
        x.got(0, 0, 49, 0);
        check.due("as much as is held", x.set(0, 50), true);
        check.counts("as much as is held", x, 50);
        check.due("one less", x.set(0, 49), true);
        check.counts("one goes at once", x, 49);
        check.due("more", x.set(0, 60), true);
        check.counts("nothing comes back", x, 49);
        x.got(0, 49, 99, 0);
        check.spans("filled", x, 0, 0, 59);
        Check.answer(x, 0);
        check.due("COST is as it was", x.told(4), 140);
    }

    private static void leastRoom(Check check) {
        PieceShelf x = Check.shelf(100);
        x.got(0, 0, 49, 0);
        check.due("no room", x.set(0, 0), true);
        check.counts("no room", x, 0);
        check.due("they come", x.got(0, 0, 49, 0), 50);
        check.counts("and go", x, 0);
        check.due("room for one", x.set(0, 1), true);
        x.got(0, 10, 49, 0);
        check.spans("room for one", x, 0, 10, 10);
    }

    private static void greatestRoom(Check check) {
        PieceShelf x = new PieceShelf();
        check.due("greatest room", x.set(0, 20000), true);
        for (int t = 0; t < 5; t++) {
            x.thing(t, 4095, 0);
            check.due("they come", x.got(t, 0, t == 4 ? 3619 : 4094, 0), t == 4 ? 3620 : 4095);
        }
        check.counts("20000", x, 4095, 4095, 4095, 4095, 3620);
        x.got(4, 3620, 3620, 0);
        check.counts("one over 20000", x, 4094, 4095, 4095, 4095, 3621);
    }

    private static void cost(Check check) {
        PieceShelf x = Check.shelf(100);
        check.due("set(1, 7)", x.set(1, 7), true);
        Check.answer(x, 0);
        check.due("cost", x.told(4), 107);
        check.due("set(1, 8)", x.set(1, 8), true);
        check.due("the plan stays as it was", x.told(4), 107);
        Check.answer(x, 0);
        check.due("cost", x.told(4), 108);
        x.set(0, 50);
        check.due("set(1, 1000)", x.set(1, 1000), true);
        check.due("set(1, 0)", x.set(1, 0), true);
        x.got(0, 0, 99, 0);
        check.counts("ROOM is as it was", x, 50);
    }

    private static void leastAndGreatestCost(Check check) {
        PieceShelf x = Check.shelf(4095);
        check.due("no cost", x.set(1, 0), true);
        Check.ask(x, "bytes=0-0,2-2", 0);
        check.fetches("no cost", x, 2, 0, 0, 2, 2);
        check.due("greatest cost", x.set(1, 1000), true);
        Check.ask(x, "bytes=0-0,1001-1001", 0);
        check.fetches("greatest cost", x, 2002, 0, 1001);
        Check.ask(x, "bytes=0-0,1002-1002", 0);
        check.fetches("greatest cost", x, 2002, 0, 0, 1002, 1002);
    }

    private static void refused(Check check, int what, int v) {
        Twins.changesNothing(check, "set(" + what + ", " + v + ")", 0, x -> Twins.number(x.set(what, v)));
    }

    private static void noSuchRoom(Check check) {
        for (int v : new int[] {-1, -2, 20001, 20002, 65536, Integer.MIN_VALUE, Integer.MAX_VALUE}) {
            refused(check, 0, v);
        }
    }

    private static void noSuchCost(Check check) {
        for (int v : new int[] {-1, -2, 1001, 1002, 20000, 65536, Integer.MIN_VALUE, Integer.MAX_VALUE}) {
            refused(check, 1, v);
        }
    }

    private static void anotherWhat(Check check) {
        for (int what : new int[] {-1, 2, 3, 256, 257, Integer.MIN_VALUE, Integer.MIN_VALUE + 1, Integer.MAX_VALUE}) {
            for (int v : new int[] {0, 5, 1000, -1}) {
                refused(check, what, v);
            }
        }
    }
}
