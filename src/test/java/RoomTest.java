/** Promises 5 and 10, and USE: what comes, and what goes when there is no room. */
public final class RoomTest {
    public static void main(String[] args) {
        Check check = new Check();
        whatComes(check);
        wrongPieces(check);
        setting(check);
        longestUnusedGoes(check);
        everyUseCounts(check);
        whatIsNoUse(check);
        itsOwnPiecesGo(check);
        roomAnewForAll(check);
        check.end();
    }

    private static PieceShelf three(int room) {
        PieceShelf x = new PieceShelf();
        for (int t = 0; t < 3; t++) {
            x.thing(t, 100, t);
        }
        x.set(0, room);
        return x;
    }

    private static void counts(Check check, String name, PieceShelf x, int... want) {
        for (int t = 0; t < want.length; t++) {
            check.due(name + ": held of " + t, x.about(t, 1), want[t]);
        }
    }

    private static void whatComes(Check check) {
        PieceShelf x = three(8000);
        check.due("one place", x.got(1, 0, 0, 1), 1);
        check.due("again", x.got(1, 0, 0, 1), 0);
        check.due("over words", x.got(1, 60, 70, 1), 11);
        check.due("partly known", x.got(1, 50, 65, 1), 10);
        check.due("all", x.got(1, 0, 99, 1), 100 - 22);
        counts(check, "all", x, 0, 100, 0);
    }

    private static void wrongPieces(Check check) {
        PieceShelf x = three(8000);
        x.got(1, 5, 6, 1);
        int[][] wrong = {
            {-1, 0, 1, 1}, {6, 0, 1, 0}, {3, 0, 1, 0}, {1, 0, 1, 2}, {1, 0, 1, -1}, {1, -1, 5, 1}, {1, 8, 7, 1},
            {1, 0, 100, 1}, {1, 100, 100, 1}, {1, Integer.MIN_VALUE, Integer.MAX_VALUE, 1},
            {1, 0, Integer.MAX_VALUE, 1}, {Integer.MIN_VALUE, 0, 0, 0}, {Integer.MAX_VALUE, 0, 0, 0},
        };
        for (int[] w : wrong) {
            check.due("got(" + w[0] + ", " + w[1] + ", " + w[2] + ", " + w[3] + ")", x.got(w[0], w[1], w[2], w[3]), -1);
        }
        counts(check, "nothing changed", x, 0, 2, 0);
        check.due("up to the last", x.got(1, 99, 99, 1), 1);
        x.thing(4, 0, 0);
        check.due("nothing of an empty thing", x.got(4, 0, 0, 0), -1);
    }

    private static void setting(Check check) {
        PieceShelf x = three(8000);
        x.got(0, 0, 49, 0);
        int[][] wrong = {
            {0, -1}, {0, 20001}, {0, Integer.MIN_VALUE}, {0, Integer.MAX_VALUE}, {1, -1}, {1, 1001},
            {1, Integer.MIN_VALUE}, {1, Integer.MAX_VALUE}, {2, 5}, {-1, 5}, {Integer.MIN_VALUE, 0},
        };
        for (int[] w : wrong) {
            check.due("set(" + w[0] + ", " + w[1] + ")", x.set(w[0], w[1]), false);
        }
        counts(check, "nothing changed", x, 50);
        Check.answer(x, 0);
        check.due("cost unchanged", x.told(4), 150);
        check.due("greatest cost", x.set(1, 1000), true);
        Check.answer(x, 0);
        check.due("greatest cost", x.told(4), 1050);
        check.due("no cost", x.set(1, 0), true);
        Check.answer(x, 0);
        check.due("no cost", x.told(4), 50);
        check.due("greatest room", x.set(0, 20000), true);
        check.due("no room", x.set(0, 0), true);
        counts(check, "no room", x, 0);
        fiveFullThings(check);
    }

    private static void fiveFullThings(Check check) {
        PieceShelf x = new PieceShelf();
        x.set(0, 20000);
        for (int t = 0; t < 5; t++) {
            x.thing(t, 4095, 0);
            check.due("4095 come", x.got(t, 0, 4094, 0), 4095);
        }
        counts(check, "greatest room", x, 20000 - 4 * 4095, 4095, 4095, 4095, 4095);
    }

    private static void longestUnusedGoes(Check check) {
        PieceShelf x = three(100);
        x.got(2, 0, 39, 2);
        x.got(0, 0, 39, 0);
        x.got(1, 0, 19, 1);
        counts(check, "full", x, 40, 20, 40);
        x.got(1, 20, 29, 1);
        counts(check, "the last places of 2 go", x, 40, 30, 30);
        check.due("held(2, 29)", x.held(2, 29), true);
        check.due("held(2, 30)", x.held(2, 30), false);
        check.due("all came", x.got(1, 30, 99, 1), 70);
        counts(check, "2 goes, then 0", x, 0, 100, 0);
    }

    private static void everyUseCounts(Check check) {
        PieceShelf x = three(60);
        x.got(0, 0, 19, 0);
        x.got(1, 0, 19, 1);
        x.got(2, 0, 19, 2);
        check.due("PARTIAL", Check.ask(x, "bytes=0-0", 0), 1);
        x.got(2, 20, 24, 2);
        counts(check, "0 was used by PARTIAL", x, 20, 15, 25);
        check.due("WHOLE", Check.answer(x, 1), 0);
        x.got(2, 25, 29, 2);
        counts(check, "1 was used by WHOLE", x, 15, 15, 30);
        check.due("got of what is there", x.got(0, 0, 0, 0), 0);
        x.got(2, 30, 34, 2);
        counts(check, "0 was used by got", x, 15, 10, 35);
    }

    private static void whatIsNoUse(Check check) {
        PieceShelf x = three(60);
        x.got(0, 0, 19, 0);
        x.got(1, 0, 19, 1);
        x.got(2, 0, 19, 2);
        check.due("REFUSED", Check.ask(x, "bytes=100-", 0), 2);
        check.due("got of another tag", x.got(0, 0, 1, 9), -1);
        x.thing(0, 100, 0);
        x.about(0, 1);
        x.held(0, 1);
        x.got(2, 20, 24, 2);
        counts(check, "0 was not used", x, 15, 20, 25);
    }

    private static void itsOwnPiecesGo(Check check) {
        PieceShelf x = three(10);
        check.due("all that came", x.got(0, 50, 69, 0), 20);
        counts(check, "some went", x, 10);
        check.due("held(0, 59)", x.held(0, 59), true);
        check.due("held(0, 60)", x.held(0, 60), false);
        check.due("the new ones are lower", x.got(0, 0, 4, 0), 5);
        counts(check, "the old ones went", x, 10);
        check.due("held(0, 54)", x.held(0, 54), true);
        check.due("held(0, 55)", x.held(0, 55), false);
        check.due("the new ones are higher", x.got(0, 90, 99, 0), 10);
        check.due("they went", x.held(0, 90), false);
        counts(check, "they went", x, 10);
        x.set(0, 0);
        check.due("no room at all", x.got(1, 0, 9, 1), 10);
        counts(check, "no room at all", x, 0, 0, 0);
    }

    private static void roomAnewForAll(Check check) {
        PieceShelf x = three(300);
        x.got(1, 0, 99, 1);
        x.got(0, 0, 99, 0);
        x.got(2, 0, 99, 2);
        x.set(0, 299);
        counts(check, "room 299", x, 100, 99, 100);
        x.set(0, 150);
        counts(check, "room 150", x, 50, 0, 100);
        x.set(0, 300);
        counts(check, "nothing comes back", x, 50, 0, 100);
        x.forget(2);
        x.set(0, 50);
        counts(check, "forgotten places need no room", x, 50, 0, 0);
    }
}
