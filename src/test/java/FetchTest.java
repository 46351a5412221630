/** Promise 9: fetch. How THE PLAN is made: PlanTest. */
public final class FetchTest {
    public static void main(String[] args) {
        Check check = new Check();
        check.sentence("Of THE PLAN of the latest ANSWER .. likewise", FetchTest::firstAndLast);
        check.sentence("as it was then", FetchTest::asItWasThen);
        check.sentence("likewise (NoSuchElementException): i", FetchTest::noSuchFetch);
        check.sentence("likewise (NoSuchElementException): no rows", FetchTest::noFetches);
        check.sentence("likewise (NoSuchElementException): no ANSWER", FetchTest::noAnswer);
        check.end();
    }

    private static void firstAndLast(Check check) {
        PieceShelf x = Check.shelf(4095);
        x.set(1, 5);
        Check.ask(x, "bytes=3000-3009,7-7,-5", 0);
        int[] want = {7, 7, 3000, 3009, 4090, 4094};
        for (int i = 0; i < 3; i++) {
            check.due("fetch(" + i + ", false)", Check.fetch(x, i, false), want[2 * i]);
            check.due("fetch(" + i + ", true)", Check.fetch(x, i, true), want[2 * i + 1]);
        }
    }

    private static void asItWasThen(Check check) {
        PieceShelf x = Check.shelf(100);
        x.set(1, 5);
        x.got(0, 0, 9, 0);
        x.got(0, 20, 29, 0);
        Check.ask(x, "bytes=0-39", 0);
        check.fetches("then", x, 30, 10, 19, 30, 39);
        x.got(0, 10, 39, 0);
        check.fetches("behind got", x, 30, 10, 19, 30, 39);
        x.set(1, 1000);
        check.fetches("behind another COST", x, 30, 10, 19, 30, 39);
        x.set(0, 0);
        check.fetches("behind no ROOM", x, 30, 10, 19, 30, 39);
        x.thing(0, 20, 7);
        check.fetches("behind thing", x, 30, 10, 19, 30, 39);
        x.forget(0);
        check.fetches("behind forget", x, 30, 10, 19, 30, 39);
        check.due("behind an answer that throws", Check.answer(x, 0), Check.BAD_ARGUMENT);
        check.fetches("behind an answer that throws", x, 30, 10, 19, 30, 39);
    }

    private static void noSuchFetch(Check check) {
        PieceShelf x = Check.shelf(100);
        x.set(1, 0);
        Check.ask(x, "bytes=1-2,11-12,21-22,31-32", 0);
        for (int i : new int[] {-1, 4, 5, 63, 64, 4095, 4096, Integer.MIN_VALUE, Integer.MAX_VALUE}) {
            check.due("fetch(" + i + ", false)", Check.fetch(x, i, false), Check.NO_ELEMENT);
            check.due("fetch(" + i + ", true)", Check.fetch(x, i, true), Check.NO_ELEMENT);
        }
        check.due("the last fetch", Check.fetch(x, 3, true), 32);
    }

    private static void noFetches(Check check) {
        PieceShelf x = Check.shelf(100);
        x.got(0, 10, 20, 0);
        Check.ask(x, "bytes=0-30", 0);
        Check.ask(x, "bytes=10-15,17-20", 0);
        check.fetches("all is held", x, 0);
        Check.ask(x, "bytes=0-30", 0);
        Check.ask(x, "bytes=100-", 0);
        check.fetches("REFUSED", x, 0);
        Check.ask(x, "bytes=0-30", 0);
        x.thing(1, 0, 0);
        Check.answer(x, 1);
        check.fetches("WHOLE of a length of 0", x, 0);
    }

    private static void noAnswer(Check check) {
        PieceShelf x = Check.shelf(100);
        for (int i : new int[] {-1, 0, 1, 64}) {
            check.due("fetch(" + i + ")", Check.fetch(x, i, false), Check.NO_ELEMENT);
            check.due("fetch(" + i + ")", Check.fetch(x, i, true), Check.NO_ELEMENT);
        }
    }
}
