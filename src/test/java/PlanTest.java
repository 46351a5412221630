/** Promise 9: the plan of the latest answer. */
public final class PlanTest {
    public static void main(String[] args) {
        Check check = new Check();
        gapsAgainstCost(check);
        noCost(check);
        plansRise(check);
        nothingToFetch(check);
        manyRows(check);
        check.end();
    }

    private static PieceShelf shelf(int cost) {
        PieceShelf x = new PieceShelf();
        x.thing(0, 4000, 0);
        x.set(1, cost);
        return x;
    }

    private static void gapsAgainstCost(Check check) {
        PieceShelf x = shelf(10);
        Check.ask(x, "bytes=0-9,20-29", 0);
        check.fetches("a gap as dear as a fetch is read", x, 40, 0, 29);
        Check.ask(x, "bytes=0-9,21-29", 0);
        check.fetches("a longer one is not", x, 39, 0, 9, 21, 29);
        x.got(0, 100, 109, 0);
        x.got(0, 150, 160, 0);
        Check.ask(x, "bytes=90-169", 0);
        check.fetches("held gaps", x, 60 + 10 + 9 + 10, 90, 149, 161, 169);
        Check.ask(x, "bytes=100-155,165-169", 0);
        check.fetches("held at the ends", x, 40 + 10 + 5 + 10, 110, 149, 165, 169);
        x.set(1, 1000);
        Check.ask(x, "bytes=0-0,1001-1001,2003-", 0);
        check.fetches("greatest cost", x, 1002 + 1000 + 1997 + 1000, 0, 1001, 2003, 3999);
    }

    private static void noCost(Check check) {
        PieceShelf x = shelf(0);
        Check.ask(x, "bytes=10-19,0-9", 0);
        check.fetches("neighbours are one row", x, 20, 0, 19);
        x.got(0, 5, 5, 0);
        Check.ask(x, "bytes=10-19,0-9", 0);
        check.fetches("one held place parts them", x, 19, 0, 4, 6, 19);
        x.set(1, 1);
        Check.ask(x, "bytes=10-19,0-9", 0);
        check.fetches("cost 1 does not", x, 21, 0, 19);
    }

    private static void plansRise(Check check) {
        PieceShelf x = shelf(5);
        Check.ask(x, "bytes=3000-3009,2000-2009,10-19", 0);
        check.rows("rows as told", x, 3000, 3009, 2000, 2009, 10, 19);
        check.fetches("fetches rise", x, 45, 10, 19, 2000, 2009, 3000, 3009);
        for (int i : new int[] {-1, 3, Integer.MIN_VALUE, Integer.MAX_VALUE}) {
            check.due("fetch(" + i + ")", Check.fetch(x, i, false), Check.NO_ELEMENT);
            check.due("fetch(" + i + ")", Check.fetch(x, i, true), Check.NO_ELEMENT);
        }
        Check.ask(x, "bytes=7-7", 0);
        check.fetches("the plan before is gone", x, 6, 7, 7);
    }

    private static void nothingToFetch(Check check) {
        PieceShelf x = shelf(5);
        x.got(0, 10, 20, 0);
        Check.ask(x, "bytes=10-15,17-20", 0);
        check.fetches("all is held", x, 0);
        check.due("all is held", x.told(2), 10);
    }

    /** More rows than one machine word has bits, as torn as the calls of one object allow. */
    private static void manyRows(Check check) {
        PieceShelf x = shelf(0);
        int pieces = 300;
        int[] want = new int[2 * pieces + 2];
        for (int k = 0; k < pieces; k++) {
            x.got(0, 2 * k + 1, 2 * k + 1, 0);
            want[2 * k] = 2 * k;
            want[2 * k + 1] = 2 * k;
        }
        want[2 * pieces] = 2 * pieces;
        want[2 * pieces + 1] = 3999;
        check.due("spans", x.about(0, 2), pieces);
        Check.answer(x, 0);
        check.fetches("torn", x, 4000 - pieces, want);
    }
}
