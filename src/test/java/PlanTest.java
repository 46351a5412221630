/** Terms: what a FETCH costs, and how THE PLAN is made. */
public final class PlanTest {
    public static void main(String[] args) {
        Check check = new Check();
        check.sentence("it costs COST .. and 1 for each place", PlanTest::priceOfAFetch);
        check.sentence("in which all places of the ANSWER are that are not HELD", PlanTest::allThatIsMissing);
        check.sentence("for which all FETCHES cost the least", PlanTest::theLeast);
        check.sentence("of several such the fewest", PlanTest::theFewest);
        check.sentence("of several such the fewest: a COST of 0", PlanTest::theFewestWithoutCost);
        check.sentence("they rise", PlanTest::theyRise);
        check.sentence("begins and ends with a place that is wanted and not HELD", PlanTest::endsAreMissing);
        check.sentence("a PLAN without rows", PlanTest::nothingToFetch);
        check.sentence("a PLAN of as many rows as calls can make", PlanTest::manyRows);
        check.end();
    }

    private static PieceShelf shelf(int cost) {
        PieceShelf x = Check.shelf(4095);
        x.set(1, cost);
        return x;
    }

    private static void priceOfAFetch(Check check) {
        for (int cost : new int[] {0, 1, 100, 999, 1000}) {
            PieceShelf x = shelf(cost);
            Check.ask(x, "bytes=5-5", 0);
            check.fetches("one place", x, cost + 1, 5, 5);
            Check.answer(x, 0);
            check.fetches("all places", x, cost + 4095, 0, 4094);
            Check.ask(x, "bytes=0-1,2000-2003,4000-", 0);
            check.fetches("three rows", x, 3 * cost + 2 + 4 + 95, 0, 1, 2000, 2003, 4000, 4094);
        }
    }

    private static void allThatIsMissing(Check check) {
        PieceShelf x = shelf(3);
        x.got(0, 10, 19, 0);
        x.got(0, 30, 30, 0);
        x.got(0, 63, 127, 0);
        Check.ask(x, "bytes=5-140", 0);
        check.fetches("around what is held", x, 3 + 5 + 3 + 43 + 3 + 13, 5, 9, 20, 62, 128, 140);
        Check.ask(x, "bytes=20-29", 0);
        check.fetches("between what is held", x, 13, 20, 29);
        Check.ask(x, "bytes=12-17,20-21", 0);
        check.fetches("beside what is held", x, 5, 20, 21);
        x.got(0, 0, 4093, 0);
        Check.answer(x, 0);
        check.fetches("the last place alone", x, 4, 4094, 4094);
    }

    private static void theLeast(Check check) {
        PieceShelf x = shelf(10);
        Check.ask(x, "bytes=0-9,19-29", 0);
        check.fetches("a gap of 9", x, 40, 0, 29);
        Check.ask(x, "bytes=0-9,21-29", 0);
        check.fetches("a gap of 11", x, 39, 0, 9, 21, 29);
        x.got(0, 100, 108, 0);
        x.got(0, 150, 160, 0);
        Check.ask(x, "bytes=90-169", 0);
        check.fetches("gaps that are held", x, 10 + 60 + 10 + 9, 90, 149, 161, 169);
        Check.ask(x, "bytes=98-101,107-108,110-112", 0);
        check.fetches("a gap of some that are held and one that is not wanted", x, 10 + 15, 98, 112);
        Check.ask(x, "bytes=98-101,107-108,111-112", 0);
        check.fetches("such a gap, too long", x, 10 + 2 + 10 + 2, 98, 99, 111, 112);
    }

    private static void theFewest(Check check) {
        PieceShelf x = shelf(10);
        Check.ask(x, "bytes=0-9,20-29", 0);
        check.fetches("a gap as dear as a fetch", x, 40, 0, 29);
        Check.ask(x, "bytes=0-0,11-11,22-22,33-33,44-44,55-55", 0);
        check.fetches("five such gaps", x, 66, 0, 55);
        x.got(0, 101, 110, 0);
        Check.ask(x, "bytes=100-111", 0);
        check.fetches("such a gap that is held", x, 22, 100, 111);
        x.set(1, 1000);
        Check.ask(x, "bytes=0-0,1001-1001,2003-", 0);
        check.fetches("gaps of 1000 and 1001", x, 2002 + 3092, 0, 1001, 2003, 4094);
    }

    private static void theFewestWithoutCost(Check check) {
        PieceShelf x = shelf(0);
        Check.ask(x, "bytes=10-19,0-9", 0);
        check.fetches("side by side", x, 20, 0, 19);
        Check.ask(x, "bytes=10-19,0-8", 0);
        check.fetches("a gap of 1", x, 19, 0, 8, 10, 19);
        x.got(0, 5, 5, 0);
        Check.ask(x, "bytes=10-19,0-9", 0);
        check.fetches("a gap of 1 that is held", x, 19, 0, 4, 6, 19);
        x.set(1, 1);
        Check.ask(x, "bytes=10-19,0-9", 0);
        check.fetches("a gap of 1 at a COST of 1", x, 21, 0, 19);
    }

    private static void theyRise(Check check) {
        PieceShelf x = shelf(5);
        Check.ask(x, "bytes=3000-3009,2000-2009,10-19", 0);
        check.rows("rows as told", x, 3000, 3009, 2000, 2009, 10, 19);
        check.fetches("fetches rise", x, 45, 10, 19, 2000, 2009, 3000, 3009);
        Check.ask(x, "bytes=3000-3009,10-19,20-29", 0);
        check.fetches("rows side by side are one fetch", x, 40, 10, 29, 3000, 3009);
    }

    private static void endsAreMissing(Check check) {
        PieceShelf x = shelf(1000);
        x.got(0, 100, 109, 0);
        x.got(0, 190, 199, 0);
        Check.ask(x, "bytes=100-199", 0);
        check.fetches("held at both ends", x, 1080, 110, 189);
        Check.ask(x, "bytes=105-115,150-160,185-195", 0);
        check.fetches("held at the outer ends", x, 1080, 110, 189);
        Check.ask(x, "bytes=100-109,150-150,190-199", 0);
        check.fetches("held but for one", x, 1001, 150, 150);
        Check.ask(x, "bytes=110-110", 0);
        check.fetches("what is not wanted is not fetched at the ends", x, 1001, 110, 110);
    }

    private static void nothingToFetch(Check check) {
        PieceShelf x = shelf(5);
        x.got(0, 10, 20, 0);
        Check.ask(x, "bytes=10-15,17-20", 0);
        check.fetches("all is held", x, 0);
        check.due("all is held", x.told(2), 10);
        x.got(0, 0, 4094, 0);
        Check.answer(x, 0);
        check.fetches("the whole is held", x, 0);
        check.due("the whole is held", x.told(2), 4095);
    }

    private static void manyRows(Check check) {
        PieceShelf x = shelf(0);
        int pieces = 500;
        int[] want = new int[2 * pieces + 2];
        for (int k = 0; k < pieces; k++) {
            x.got(0, 8 * k + 3, 8 * k + 3, 0);
            want[2 * k + 1] = 8 * k + 2;
            want[2 * k + 2] = 8 * k + 4;
        }
        want[2 * pieces + 1] = 4094;
        check.due("spans", x.about(0, 2), pieces);
        Check.answer(x, 0);
        check.fetches("torn", x, 4095 - pieces, want);
    }
}
