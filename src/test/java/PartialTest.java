/** Terms: AN ANSWER, whether WHOLE, PARTIAL or REFUSED. */
public final class PartialTest {
    public static void main(String[] args) {
        Check check = new Check();
        check.sentence("AN ANSWER to a tape that is no TEXT is WHOLE: all places from 0 to LENGTH - 1", PartialTest::whole);
        check.sentence("WHOLE .. of a LENGTH of 0", PartialTest::wholeOfNothing);
        check.sentence("REFUSED, if all PARTS are VAIN", PartialTest::refused);
        check.sentence("else PARTIAL: those PARTS that are not VAIN", PartialTest::notVain);
        check.sentence("as they were told", PartialTest::asTold);
        check.sentence("if two of them have a place in common", PartialTest::commonPlace);
        check.sentence("PARTS without a place in common, but side by side", PartialTest::sideBySide);
        check.sentence("or more than 3 are not VAIN", PartialTest::moreThanThree);
        check.sentence("more than 3 are not VAIN: those that are do not count", PartialTest::vainOnesDoNotCount);
        check.sentence("instead of them the SPANS of all of them together", PartialTest::spansOfAll);
        check.end();
    }

    private static void ask(Check check, int length, String text, int kind, int... want) {
        PieceShelf x = Check.shelf(length);
        check.due("answer of '" + text + "' of " + length, Check.ask(x, text, 0), kind);
        check.rows("'" + text + "' of " + length, x, want);
        int places = 0;
        for (int k = 0; k < want.length; k += 2) {
            places += want[k + 1] - want[k] + 1;
        }
        check.due("'" + text + "' of " + length + ": told(1)", x.told(1), places);
    }

    private static void whole(Check check) {
        ask(check, 1, "", 0, 0, 0);
        ask(check, 2, "x", 0, 0, 1);
        ask(check, 100, "bytes=2-1", 0, 0, 99);
        ask(check, 4095, "bytes=", 0, 0, 4094);
    }

    private static void wholeOfNothing(Check check) {
        ask(check, 0, "", 0);
        ask(check, 0, "bytes=2-1", 0);
    }

    private static void refused(Check check) {
        ask(check, 100, "bytes=100-", 2);
        ask(check, 100, "bytes=100-,100-100,-0,100-,200-300,-00000", 2);
        ask(check, 100, "bytes=100-,100-,-0,100-,200-300,99-", 1, 99, 99);
        ask(check, 100, "bytes=99-,100-,-0,100-,200-300,-0", 1, 99, 99);
        ask(check, 0, "bytes=0-,-1,0-0", 2);
    }

    private static void notVain(Check check) {
        ask(check, 100, "bytes=100-,7-8,-0", 1, 7, 8);
        ask(check, 100, "bytes=90-150,120-160", 1, 90, 99);
        ask(check, 100, "bytes=7-8,100-,3-4", 1, 7, 8, 3, 4);
    }

    private static void asTold(Check check) {
        ask(check, 100, "bytes=60-69,0-9", 1, 60, 69, 0, 9);
        ask(check, 100, "bytes=60-69,0-9,-5", 1, 60, 69, 0, 9, 95, 99);
        ask(check, 100, "bytes=-5,60-69,0-9", 1, 95, 99, 60, 69, 0, 9);
        ask(check, 100, "bytes=9-9,7-7,5-5", 1, 9, 9, 7, 7, 5, 5);
        ask(check, 100, "bytes=5-5,7-7,9-9", 1, 5, 5, 7, 7, 9, 9);
    }

    private static void commonPlace(Check check) {
        ask(check, 100, "bytes=10-20,0-10", 1, 0, 20);
        ask(check, 100, "bytes=0-10,10-20", 1, 0, 20);
        ask(check, 100, "bytes=50-60,0-10,10-20", 1, 0, 20, 50, 60);
        ask(check, 100, "bytes=10-20,50-60,0-10", 1, 0, 20, 50, 60);
        ask(check, 100, "bytes=0-10,10-20,50-60", 1, 0, 20, 50, 60);
        ask(check, 100, "bytes=80-80,5-6,5-6", 1, 5, 6, 80, 80);
        ask(check, 100, "bytes=5-5,5-5", 1, 5, 5);
        ask(check, 100, "bytes=80-90,-20", 1, 80, 99);
        ask(check, 100, "bytes=99-,-1,0-0", 1, 0, 0, 99, 99);
        ask(check, 100, "bytes=0-99,40-50", 1, 0, 99);
        ask(check, 100, "bytes=40-50,0-99", 1, 0, 99);
        ask(check, 4095, "bytes=4094-,0-63,63-64", 1, 0, 64, 4094, 4094);
        ask(check, 100, "bytes=50-60,-101,200-", 1, 0, 99);
    }

    private static void sideBySide(Check check) {
        ask(check, 100, "bytes=0-9,10-19", 1, 0, 9, 10, 19);
        ask(check, 100, "bytes=10-19,0-9", 1, 10, 19, 0, 9);
        ask(check, 100, "bytes=11-20,50-60,0-10", 1, 11, 20, 50, 60, 0, 10);
        ask(check, 100, "bytes=64-,0-63", 1, 64, 99, 0, 63);
        ask(check, 100, "bytes=0-9,10-19,19-20", 1, 0, 20);
    }

    private static void moreThanThree(Check check) {
        ask(check, 100, "bytes=9-9,7-7,5-5", 1, 9, 9, 7, 7, 5, 5);
        ask(check, 100, "bytes=9-9,7-7,5-5,3-3", 1, 3, 3, 5, 5, 7, 7, 9, 9);
        ask(check, 100, "bytes=9-9,7-7,5-5,3-3,1-1", 1, 1, 1, 3, 3, 5, 5, 7, 7, 9, 9);
        ask(check, 100, "bytes=9-9,7-7,5-5,3-3,1-1,-1", 1, 1, 1, 3, 3, 5, 5, 7, 7, 9, 9, 99, 99);
    }

    private static void vainOnesDoNotCount(Check check) {
        ask(check, 100, "bytes=100-,7-8,-0,3-4,200-201,1-1", 1, 7, 8, 3, 4, 1, 1);
        ask(check, 100, "bytes=7-8,3-4,1-1,-0", 1, 7, 8, 3, 4, 1, 1);
        ask(check, 100, "bytes=100-,7-8,-0,3-4,11-12,1-1", 1, 1, 1, 3, 4, 7, 8, 11, 12);
    }

    private static void spansOfAll(Check check) {
        ask(check, 100, "bytes=80-,-5,10-19,20-29", 1, 10, 29, 80, 99);
        ask(check, 100, "bytes=3-3,2-2,1-1,0-0", 1, 0, 3);
        ask(check, 100, "bytes=50-60,0-10,11-20,10-10", 1, 0, 20, 50, 60);
        ask(check, 100, "bytes=40-41,0-10,10-20,21-30", 1, 0, 30, 40, 41);
        ask(check, 100, "bytes=0-10,10-20,22-30", 1, 0, 20, 22, 30);
        ask(check, 100, "bytes=0-,1-,2-,3-,4-,5-", 1, 0, 99);
        ask(check, 4095, "bytes=0-63,128-191,64-127,4094-", 1, 0, 191, 4094, 4094);
    }
}
