/** Two shelves with the same past, one of which gets a call more that must change nothing. */
final class Twins {
    /** A call, and what it answers as a number. */
    interface Call {
        long on(PieceShelf x);
    }

    private interface Probe {
        String of(PieceShelf x);
    }

    private static final Probe[] PROBES = {Twins::state, Twins::tape, Twins::room};

    private Twins() {
    }

    /** Three things with pieces, of which 2 was used longest ago and 0 last, an answer, and a text half typed. */
    static PieceShelf busy() {
        PieceShelf x = new PieceShelf();
        x.set(0, 120);
        x.set(1, 10);
        x.thing(0, 100, 5);
        x.thing(1, 50, 6);
        x.thing(2, 4095, 7);
        x.got(2, 0, 39, 7);
        x.got(0, 10, 49, 5);
        x.got(1, 0, 29, 6);
        Check.ask(x, "bytes=0-19,60-69", 0);
        Check.type(x, "bytes=1-");
        return x;
    }

    static void changesNothing(Check check, String name, long want, Call call) {
        for (Probe probe : PROBES) {
            PieceShelf called = busy();
            check.due(name, call.on(called), want);
            check.due(name + ", and then the shelf", probe.of(called), probe.of(busy()));
        }
    }

    static long number(boolean answer) {
        return answer ? 1L : 0L;
    }

    /** All that can be seen without changing anything. */
    static String state(PieceShelf x) {
        StringBuilder b = new StringBuilder();
        for (int t = 0; t < 6; t++) {
            b.append("thing ").append(t).append(':');
            for (int what = 0; what < 4; what++) {
                b.append(' ').append(x.about(t, what));
            }
            for (int p = 0; p < x.about(t, 0); p++) {
                b.append(x.held(t, p) ? '#' : '.');
            }
            b.append('\n');
        }
        for (int what = 0; what < 6; what++) {
            b.append("told ").append(x.told(what)).append('\n');
        }
        for (int i = 0; i < x.told(0); i++) {
            b.append("row ").append(Check.row(x, i, false)).append(' ').append(Check.row(x, i, true)).append('\n');
        }
        for (int i = 0; i < x.told(3); i++) {
            b.append("fetch ").append(Check.fetch(x, i, false)).append(' ').append(Check.fetch(x, i, true)).append('\n');
        }
        return b.toString();
    }

    /** Shows what is on the tape, what COST is, and how full the tape is. */
    private static String tape(PieceShelf x) {
        StringBuilder b = new StringBuilder();
        b.append(Check.ask(x, "3,7-", 0)).append('\n').append(state(x));
        b.append(Check.ask(x, "", 1)).append('\n').append(state(x));
        return b.toString();
    }

    /** Shows ROOM, and in what order the things were used, by pressing them out one by one. */
    private static String room(PieceShelf x) {
        StringBuilder b = new StringBuilder();
        x.thing(5, 4095, 0);
        for (int k = 0; k < 13; k++) {
            b.append(x.got(5, 10 * k, 10 * k + 9, 0)).append('\n').append(state(x));
        }
        return b.toString();
    }
}
