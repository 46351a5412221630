/** Terms: what a TEXT is, what its PARTS mean, and which of them are VAIN. */
public final class TextTest {
    public static void main(String[] args) {
        Check check = new Check();
        check.sentence("A TEXT is bytes= and behind that ..", TextTest::head);
        check.sentence("1 to 6 PARTS", TextTest::oneToSixParts);
        check.sentence("with , between", TextTest::commas);
        check.sentence("a-b, a- or -c", TextTest::forms);
        check.sentence("(a not above b)", TextTest::aNotAboveB);
        check.sentence("a-b, a- or -c: another sign for -", TextTest::noDash);
        check.sentence("these being numbers of 1 to 5 digits", TextTest::digits);
        check.sentence("numbers of .. digits: signs beside the digits", TextTest::noDigits);
        check.sentence("a-b the places from a to b that are below n", TextTest::fromTo);
        check.sentence("a- those from a on", TextTest::fromOn);
        check.sentence("-c the last c (all, if there are fewer)", TextTest::lastOnes);
        check.sentence("A PART for which there are none is VAIN", TextTest::vain);
        check.end();
    }

    /** Of a LENGTH of 100 no text is answered with all places from 0 to 99, and as WHOLE. */
    private static void no(Check check, String... texts) {
        for (String text : texts) {
            PieceShelf x = Check.shelf(100);
            check.due("answer of '" + text + "'", Check.ask(x, text, 0), 0);
            check.rows("'" + text + "'", x, 0, 99);
        }
    }

    private static void yes(Check check, int length, String text, int... want) {
        PieceShelf x = Check.shelf(length);
        check.due("answer of '" + text + "' of " + length, Check.ask(x, text, 0), want.length == 0 ? 2 : 1);
        check.rows("'" + text + "' of " + length, x, want);
    }

    private static void head(Check check) {
        yes(check, 100, "bytes=1-2", 1, 2);
        no(check, "", "b", "bytes", "1-2", "=1-2", "byte=1-2", "bytes1-2", "bytes:1-2", "bytes==1-2", "bytes-1-2");
        no(check, "Bytes=1-2", "BYTES=1-2", "bYtes=1-2", "byteS=1-2", "xbytes=1-2", "bytes=bytes=1-2", "bytesx=1-2");
        no(check, "cytes=1-2", "bxtes=1-2", "byxes=1-2", "bytxs=1-2", "bytex=1-2", "bytes>1-2");
    }

    private static void oneToSixParts(Check check) {
        no(check, "bytes=");
        yes(check, 100, "bytes=1-1", 1, 1);
        yes(check, 100, "bytes=1-1,3-3", 1, 1, 3, 3);
        yes(check, 100, "bytes=1-1,3-3,5-5,7-7,9-9", 1, 1, 3, 3, 5, 5, 7, 7, 9, 9);
        yes(check, 100, "bytes=1-1,3-3,5-5,7-7,9-9,11-11", 1, 1, 3, 3, 5, 5, 7, 7, 9, 9, 11, 11);
        no(check, "bytes=1-1,3-3,5-5,7-7,9-9,11-11,13-13", "bytes=1-1,1-1,1-1,1-1,1-1,1-1,1-1");
        no(check, "bytes=-0,-0,-0,-0,-0,-0,-0", "bytes=1-,1-,1-,1-,1-,1-,1-,1-");
    }

    private static void commas(Check check) {
        no(check, "bytes=,", "bytes=,1-2", "bytes=1-2,", "bytes=1-2,,3-4", "bytes=1-2;3-4", "bytes=1-2.3-4");
        no(check, "bytes=1-2-3-4", "bytes=1-2+3-4", "bytes=1-1,3-3,5-5,7-7,9-9,11-11,", "bytes=1-,", "bytes=-1,");
        no(check, "bytes=1-1,3-3,5-5,7-7,9-9,11-11;", "bytes=1-1,3-3,5-5,7-7,9-9,11-11x");
    }

    private static void forms(Check check) {
        yes(check, 100, "bytes=3-4", 3, 4);
        yes(check, 100, "bytes=3-", 3, 99);
        yes(check, 100, "bytes=-3", 97, 99);
        yes(check, 100, "bytes=3-,0-1", 3, 99, 0, 1);
        yes(check, 100, "bytes=-3,0-1", 97, 99, 0, 1);
        no(check, "bytes=-", "bytes=3", "bytes=--3", "bytes=3--", "bytes=3--4", "bytes=3-4-", "bytes=-3-4", "bytes=-3-");
        no(check, "bytes=1-2,-", "bytes=-,1-2", "bytes=1-2,3", "bytes=3,1-2", "bytes=1-2,x");
    }

    private static void noDash(Check check) {
        for (char c : new char[] {',', '.', '+', '=', ':', '/', '_', '~', '!', 'x'}) {
            no(check, "bytes=1" + c + "2", "bytes=1" + c, "bytes=" + c + "2", "bytes=" + c);
            no(check, "bytes=1" + c + "2,3-4", "bytes=3-4,1" + c + "2", "bytes=0-0,1" + c, "bytes=0-0," + c + "2");
        }
    }

    private static void aNotAboveB(Check check) {
        yes(check, 100, "bytes=7-7", 7, 7);
        yes(check, 100, "bytes=9-10", 9, 10);
        yes(check, 100, "bytes=00009-10", 9, 10);
        yes(check, 100, "bytes=0-0", 0, 0);
        yes(check, 100, "bytes=99999-99999");
        no(check, "bytes=8-7", "bytes=1-0", "bytes=10-9", "bytes=010-9", "bytes=99999-99998", "bytes=200-199");
        no(check, "bytes=1-2,8-7", "bytes=8-7,1-2", "bytes=-0,8-7", "bytes=1-1,3-3,5-5,7-7,9-9,11-10");
    }

    private static void digits(Check check) {
        yes(check, 100, "bytes=1-2", 1, 2);
        yes(check, 100, "bytes=00001-00002", 1, 2);
        yes(check, 100, "bytes=00001-", 1, 99);
        yes(check, 100, "bytes=-00001", 99, 99);
        yes(check, 100, "bytes=0-99999", 0, 99);
        yes(check, 100, "bytes=-99999", 0, 99);
        yes(check, 100, "bytes=99999-");
        no(check, "bytes=000001-2", "bytes=1-000002", "bytes=000001-", "bytes=-000001", "bytes=0-100000", "bytes=-100000");
        no(check, "bytes=100000-", "bytes=1-2,000003-4", "bytes=1-2,3-000004", "bytes=0000000001-", "bytes=-4294967297");
        yes(check, 4095, "bytes=01234-56789", 1234, 4094);
        yes(check, 4095, "bytes=987-3456", 987, 3456);
    }

    /** The signs right below 0 and above 9, and some that numbers may have elsewhere. */
    private static void noDigits(Check check) {
        for (char c : new char[] {'/', ':', '+', '.', 'a', 'x', '!', '~', '=', '*', '_'}) {
            no(check, "bytes=" + c + "-2", "bytes=1-" + c, "bytes=-" + c, "bytes=" + c + "-");
            no(check, "bytes=" + c + "1-2", "bytes=1" + c + "-2", "bytes=1-" + c + "2", "bytes=1-2" + c, "bytes=1-" + c);
        }
    }

    private static void fromTo(Check check) {
        yes(check, 100, "bytes=0-99", 0, 99);
        yes(check, 100, "bytes=0-98", 0, 98);
        yes(check, 100, "bytes=0-100", 0, 99);
        yes(check, 100, "bytes=99-99", 99, 99);
        yes(check, 100, "bytes=99-100", 99, 99);
        yes(check, 100, "bytes=98-5000", 98, 99);
        yes(check, 1, "bytes=0-0", 0, 0);
        yes(check, 1, "bytes=0-1", 0, 0);
        yes(check, 4095, "bytes=4094-4094", 4094, 4094);
        yes(check, 4095, "bytes=4094-4095", 4094, 4094);
        yes(check, 4095, "bytes=0-4096", 0, 4094);
    }

    private static void fromOn(Check check) {
        yes(check, 100, "bytes=0-", 0, 99);
        yes(check, 100, "bytes=98-", 98, 99);
        yes(check, 100, "bytes=99-", 99, 99);
        yes(check, 1, "bytes=0-", 0, 0);
        yes(check, 4095, "bytes=4094-", 4094, 4094);
    }

    private static void lastOnes(Check check) {
        yes(check, 100, "bytes=-1", 99, 99);
        yes(check, 100, "bytes=-2", 98, 99);
        yes(check, 100, "bytes=-99", 1, 99);
        yes(check, 100, "bytes=-100", 0, 99);
        yes(check, 100, "bytes=-101", 0, 99);
        yes(check, 100, "bytes=-5000", 0, 99);
        yes(check, 1, "bytes=-1", 0, 0);
        yes(check, 1, "bytes=-2", 0, 0);
        yes(check, 4095, "bytes=-4095", 0, 4094);
        yes(check, 4095, "bytes=-4096", 0, 4094);
    }

    private static void vain(Check check) {
        yes(check, 100, "bytes=100-100");
        yes(check, 100, "bytes=100-200");
        yes(check, 100, "bytes=100-");
        yes(check, 100, "bytes=101-");
        yes(check, 100, "bytes=-0");
        yes(check, 100, "bytes=-00000");
        yes(check, 4095, "bytes=4095-");
        yes(check, 4095, "bytes=4095-4095");
        yes(check, 4095, "bytes=4096-");
        yes(check, 1, "bytes=1-");
        yes(check, 0, "bytes=0-");
        yes(check, 0, "bytes=0-0");
        yes(check, 0, "bytes=-1");
        yes(check, 0, "bytes=-0");
    }
}
