/** Long runs of calls, the answers held against a second, slow reading of the document. */
public final class ModelTest {
    private static final int RUNS = 1200;
    private static final int CALLS = 300;
    private static final int WILD_RUNS = 1500;
    private static final int WILD_CALLS = 512;

    /** Numbers around every bound that the document tells, and the ends of int. */
    private static final int[] WILD = {
        Integer.MIN_VALUE, Integer.MIN_VALUE + 1, -4096, -65, -64, -8, -6, -2, -1, 0, 1, 2, 3, 4, 5, 6, 7, 8, 9, 59, 60, 61,
        63, 64, 65, 99, 100, 101, 999, 1000, 1001, 4093, 4094, 4095, 4096, 4097, 8000, 19999, 20000, 20001, 65536,
        Integer.MAX_VALUE - 1, Integer.MAX_VALUE,
    };

    /** A fixed row of numbers, so that each run of the test is the same. */
    private long seed = 20261115L;

    private int below(int n) {
        seed = seed * 6364136223846793005L + 1442695040888963407L;
        return (int) ((seed >>> 33) % n);
    }

    public static void main(String[] args) {
        Check check = new Check();
        ModelTest test = new ModelTest();
        for (int run = 0; run < RUNS; run++) {
            test.run(check, run);
        }
        for (int run = 0; run < WILD_RUNS; run++) {
            test.runWild(check, run);
        }
        check.end();
    }

    private void run(Check check, int run) {
        PieceShelf x = new PieceShelf();
        Model m = new Model();
        int greatest = new int[] {12, 70, 200, 4095}[run % 4];
        for (int k = 0; k < CALLS; k++) {
            String name = "run " + run + ", call " + k;
            call(check, name, x, m, greatest);
            if (k % 50 == 49) {
                compare(check, name, x, m);
            }
        }
    }

    private void call(Check check, String name, PieceShelf x, Model m, int greatest) {
        int t = below(20) == 0 ? below(9) - 2 : below(3);
        switch (below(10)) {
            case 0:
                int length = below(3) == 0 ? below(greatest + 1) : greatest;
                int tag = below(4) == 0 ? 1 : 0;
                check.due(name + " thing", x.thing(t, length, tag), m.thing(t, length, tag));
                break;
            case 1:
                if (below(4) == 0) {
                    check.due(name + " forget", x.forget(t), m.forget(t));
                }
                break;
            case 2:
                int what = below(3);
                int v = what == 1 ? below(below(2) == 0 ? 6 : 1005) - 1 : below(3) == 0 ? below(20010) : below(3 * greatest);
                check.due(name + " set", x.set(what, v), m.set(what, v));
                break;
            case 3:
            case 4:
            case 5:
                int a = below(greatest + 1) - (below(30) == 0 ? 5 : 0);
                int b = a + below(below(2) == 0 ? 4 : greatest) - (below(30) == 0 ? 5 : 0);
                int with = below(8) == 0 ? 1 : 0;
                check.due(name + " got", x.got(t, a, b, with), m.got(t, a, b, with));
                break;
            default:
                String text = text(greatest);
                type(check, name, x, m, text);
                check.due(name + " answer " + text, Check.answer(x, t), m.answer(t));
                compareAnswer(check, name + " " + text, x, m);
        }
    }

    private void type(Check check, String name, PieceShelf x, Model m, String text) {
        int at = 0;
        while (at < text.length()) {
            int n = Math.min(1 + below(8), text.length() - at);
            long word = Check.word(text.substring(at, at + n));
            check.due(name + " type " + text, x.type(word, n), m.type(word, n));
            at += n;
        }
    }

    private String text(int greatest) {
        StringBuilder b = new StringBuilder(below(20) == 0 ? "" : "bytes=");
        int parts = 1 + below(below(2) == 0 ? 3 : 7);
        for (int k = 0; k < parts; k++) {
            b.append(k == 0 ? "" : ",");
            int low = below(greatest + 3);
            int high = low + below(below(2) == 0 ? 4 : greatest) - (below(40) == 0 ? 3 : 0);
            switch (below(6)) {
                case 0:
                    b.append(low).append('-');
                    break;
                case 1:
                    b.append('-').append(below(4) == 0 ? low : below(4));
                    break;
                default:
                    b.append(low).append('-').append(high);
            }
        }
        if (below(15) == 0) {
            b.setCharAt(below(b.length()), "-,0a".charAt(below(4)));
        }
        return b.length() > 60 ? b.substring(0, 60) : b.toString();
    }

    private void runWild(Check check, int run) {
        PieceShelf x = new PieceShelf();
        Model m = new Model();
        for (int k = 0; k < WILD_CALLS; k++) {
            wildCall(check, "wild run " + run + ", call " + k, x, m);
        }
        compareAnswer(check, "wild run " + run, x, m);
    }

    private int wild() {
        return WILD[below(WILD.length)];
    }

    private int wildThing() {
        return below(4) == 0 ? wild() : below(3);
    }

    private void wildCall(Check check, String name, PieceShelf x, Model m) {
        int t = wildThing();
        int a = wild();
        int b = wild();
        int tag = below(5) == 0 ? wild() : 0;
        switch (below(12)) {
            case 0:
                String text = text(4095);
                type(check, name, x, m, text);
                break;
            case 1:
                long word = (long) a << 32 | Check.word("=1-,") ^ (below(3) == 0 ? b : 0);
                int n = below(2) == 0 ? wild() : 1 + below(8);
                check.due(name + " type(" + word + ", " + n + ")", x.type(word, n), m.type(word, n));
                break;
            case 2:
                check.due(name + " thing(" + t + ", " + a + ", " + tag + ")", x.thing(t, a, tag), m.thing(t, a, tag));
                break;
            case 3:
                int seldom = below(4) == 0 ? t : a;
                check.due(name + " forget(" + seldom + ")", x.forget(seldom), m.forget(seldom));
                break;
            case 4:
            case 5:
                check.due(name + " got(" + t + ", " + a + ", " + b + ", " + tag + ")", x.got(t, a, b, tag), m.got(t, a, b, tag));
                break;
            case 6:
                check.due(name + " answer(" + t + ")", Check.answer(x, t), m.answer(t));
                break;
            case 7:
                int what = below(2) == 0 ? below(2) : a;
                check.due(name + " set(" + what + ", " + b + ")", x.set(what, b), m.set(what, b));
                break;
            default:
                look(check, name, x, m, t, a, b);
        }
    }

    private void look(Check check, String name, PieceShelf x, Model m, int t, int a, int b) {
        boolean end = below(2) == 0;
        check.due(name + " told(" + a + ")", x.told(a), m.told(a));
        check.due(name + " row(" + a + ", " + end + ")", Check.row(x, a, end), m.row(a, end));
        check.due(name + " fetch(" + b + ", " + end + ")", Check.fetch(x, b, end), m.fetch(b, end));
        check.due(name + " about(" + t + ", " + a + ")", x.about(t, a), m.about(t, a));
        check.due(name + " held(" + t + ", " + b + ")", x.held(t, b), m.held(t, b));
    }

    private void compareAnswer(Check check, String name, PieceShelf x, Model m) {
        for (int what = -1; what <= 6; what++) {
            check.due(name + " told(" + what + ")", x.told(what), m.told(what));
        }
        for (int i = -1; i <= m.rows.size(); i++) {
            check.due(name + " row " + i, Check.row(x, i, false), m.row(i, false));
            check.due(name + " row end " + i, Check.row(x, i, true), m.row(i, true));
        }
        for (int i = -1; i <= m.plan.size(); i++) {
            check.due(name + " fetch " + i, Check.fetch(x, i, false), m.fetch(i, false));
            check.due(name + " fetch end " + i, Check.fetch(x, i, true), m.fetch(i, true));
        }
    }

    private void compare(Check check, String name, PieceShelf x, Model m) {
        for (int t = -1; t <= 6; t++) {
            for (int what = -1; what <= 4; what++) {
                check.due(name + " about(" + t + ", " + what + ")", x.about(t, what), m.about(t, what));
            }
            for (int place = -1; place <= 4096; place++) {
                check.due(name + " held(" + t + ", " + place + ")", x.held(t, place), m.held(t, place));
            }
        }
    }
}
