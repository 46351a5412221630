import java.util.ArrayList;
import java.util.List;
import java.util.regex.Pattern;

/** Long runs of calls, the answers held against a second, slow reading of the document. */
public final class ModelTest {
    private static final int RUNS = 1500;
    private static final int CALLS = 300;

    /** A fixed row of numbers, so that each run of the test is the same. */
    private long seed = 20261115L;

    private int below(int n) {
        seed = seed * 6364136223846793005L + 1442695040888963407L;
        return (int) ((seed >>> 33) % n);
    }

    public static void main(String[] args) {
        Check check = new Check();
        ModelTest test = new ModelTest();
        for (int run = 0; run < RUNS; run++) {
            test.run(check, run);
        }
        check.end();
    }

    private void run(Check check, int run) {
        PieceShelf x = new PieceShelf();
        Model m = new Model();
        int greatest = new int[] {12, 70, 200, 4095}[run % 4];
        for (int k = 0; k < CALLS; k++) {
            String name = "run " + run + ", call " + k;
            call(check, name, x, m, greatest);
            if (k % 50 == 49) {
                compare(check, name, x, m);
            }
        }
    }

    private void call(Check check, String name, PieceShelf x, Model m, int greatest) {
        int t = below(20) == 0 ? below(9) - 2 : below(3);
        switch (below(10)) {
            case 0:
                int length = below(3) == 0 ? below(greatest + 1) : greatest;
                int tag = below(4) == 0 ? 1 : 0;
                check.due(name + " thing", x.thing(t, length, tag), m.thing(t, length, tag));
                break;
            case 1:
                if (below(4) == 0) {
                    check.due(name + " forget", x.forget(t), m.forget(t));
                }
                break;
            case 2:
                int what = below(3);
                int v = what == 1 ? below(below(2) == 0 ? 6 : 1005) - 1 : below(3) == 0 ? below(20010) : below(3 * greatest);
                check.due(name + " set", x.set(what, v), m.set(what, v));
                break;
            case 3:
            case 4:
            case 5:
                int a = below(greatest + 1) - (below(30) == 0 ? 5 : 0);
                int b = a + below(below(2) == 0 ? 4 : greatest) - (below(30) == 0 ? 5 : 0);
                int with = below(8) == 0 ? 1 : 0;
                check.due(name + " got", x.got(t, a, b, with), m.got(t, a, b, with));
                break;
            default:
                String text = text(greatest);
                check.due(name + " type " + text, Check.type(x, text), true);
                check.due(name + " answer " + text, Check.answer(x, t), m.answer(t, text));
                compareAnswer(check, name + " " + text, x, m);
        }
    }

    private String text(int greatest) {
        StringBuilder b = new StringBuilder(below(20) == 0 ? "" : "bytes=");
        int parts = 1 + below(below(2) == 0 ? 3 : 7);
        for (int k = 0; k < parts; k++) {
            b.append(k == 0 ? "" : ",");
            int low = below(greatest + 3);
            int high = low + below(below(2) == 0 ? 4 : greatest) - (below(40) == 0 ? 3 : 0);
            switch (below(6)) {
                case 0:
                    b.append(low).append('-');
                    break;
                case 1:
                    b.append('-').append(below(4) == 0 ? low : below(4));
                    break;
                default:
                    b.append(low).append('-').append(high);
            }
        }
        if (below(15) == 0) {
            b.setCharAt(below(b.length()), "-,0a".charAt(below(4)));
        }
        return b.length() > 60 ? b.substring(0, 60) : b.toString();
    }

    private void compareAnswer(Check check, String name, PieceShelf x, Model m) {
        for (int what = -1; what <= 6; what++) {
            check.due(name + " told(" + what + ")", x.told(what), m.told(what));
        }
        for (int i = 0; i <= m.rows.size(); i++) {
            boolean is = i < m.rows.size();
            check.due(name + " row " + i, Check.row(x, i, false), is ? m.rows.get(i)[0] : Check.NO_ELEMENT);
            check.due(name + " row end " + i, Check.row(x, i, true), is ? m.rows.get(i)[1] : Check.NO_ELEMENT);
        }
        for (int i = 0; i <= m.plan.size(); i++) {
            boolean is = i < m.plan.size();
            check.due(name + " fetch " + i, Check.fetch(x, i, false), is ? m.plan.get(i)[0] : Check.NO_ELEMENT);
            check.due(name + " fetch end " + i, Check.fetch(x, i, true), is ? m.plan.get(i)[1] : Check.NO_ELEMENT);
        }
    }

    private void compare(Check check, String name, PieceShelf x, Model m) {
        for (int t = -1; t <= 6; t++) {
            for (int what = -1; what <= 4; what++) {
                check.due(name + " about(" + t + ", " + what + ")", x.about(t, what), m.about(t, what));
            }
            for (int place = -1; place <= 4096; place++) {
                boolean want = t >= 0 && t < 6 && place >= 0 && place < 4096 && m.held[t][place];
                check.due(name + " held(" + t + ", " + place + ")", x.held(t, place), want);
            }
        }
    }

    /** The document word by word: sets are rows of booleans, places go one by one, plans are searched for. */
    private static final class Model {
        private static final String PART = "(\\d{1,5}-\\d{0,5}|-\\d{1,5})";
        private static final Pattern TEXT = Pattern.compile("bytes=" + PART + "(," + PART + "){0,5}");

        final boolean[][] held = new boolean[6][4096];
        final int[] length = {-1, -1, -1, -1, -1, -1};
        final int[] tag = new int[6];
        final List<Integer> used = new ArrayList<>();
        int room = 8000;
        int cost = 100;
        List<int[]> rows = new ArrayList<>();
        List<int[]> plan = new ArrayList<>();
        int places;
        int heldThen;
        int price;
        int of = -1;

        boolean is(int t) {
            return t >= 0 && t < 6;
        }

        boolean thing(int t, int l, int g) {
            if (!is(t) || l < 0 || l > 4095) {
                return false;
            }
            if (length[t] != l || tag[t] != g) {
                held[t] = new boolean[4096];
            }
            length[t] = l;
            tag[t] = g;
            return true;
        }

        boolean forget(int t) {
            if (!is(t)) {
                return false;
            }
            length[t] = -1;
            held[t] = new boolean[4096];
            return true;
        }

        boolean set(int what, int v) {
            if (what == 0 && v >= 0 && v <= 20000) {
                room = v;
                makeRoom();
                return true;
            }
            if (what == 1 && v >= 0 && v <= 1000) {
                cost = v;
                return true;
            }
            return false;
        }

        int got(int t, int a, int b, int g) {
            if (!is(t) || length[t] == -1 || tag[t] != g || a < 0 || a > b || b >= length[t]) {
                return -1;
            }
            int fresh = 0;
            for (int p = a; p <= b; p++) {
                fresh += held[t][p] ? 0 : 1;
                held[t][p] = true;
            }
            use(t);
            makeRoom();
            return fresh;
        }

        void use(int t) {
            used.remove(Integer.valueOf(t));
            used.add(t);
        }

        int count(boolean[] set) {
            int n = 0;
            for (boolean b : set) {
                n += b ? 1 : 0;
            }
            return n;
        }

        void makeRoom() {
            int all = 0;
            for (boolean[] set : held) {
                all += count(set);
            }
            for (int t : used) {
                for (int p = 4095; p >= 0 && all > room; p--) {
                    all -= held[t][p] ? 1 : 0;
                    held[t][p] = false;
                }
            }
        }

        /** The parts of a text as {first, last}, or null if it is none. */
        List<int[]> parts(String text, int n) {
            if (!TEXT.matcher(text).matches()) {
                return null;
            }
            List<int[]> parts = new ArrayList<>();
            for (String part : text.substring(6).split(",")) {
                String[] ends = part.split("-", 2);
                if (ends[0].isEmpty()) {
                    parts.add(new int[] {Math.max(0, n - Integer.parseInt(ends[1])), n - 1});
                    continue;
                }
                int a = Integer.parseInt(ends[0]);
                int b = ends[1].isEmpty() ? Integer.MAX_VALUE : Integer.parseInt(ends[1]);
                if (a > b) {
                    return null;
                }
                parts.add(new int[] {a, Math.min(b, n - 1)});
            }
            return parts;
        }

        List<int[]> spans(boolean[] set) {
            List<int[]> spans = new ArrayList<>();
            for (int p = 0; p < set.length; p++) {
                if (set[p] && (p == 0 || !set[p - 1])) {
                    spans.add(new int[] {p, p});
                } else if (set[p]) {
                    spans.get(spans.size() - 1)[1] = p;
                }
            }
            return spans;
        }

        int answer(int t, String text) {
            if (!is(t) || length[t] == -1) {
                return Check.BAD_ARGUMENT;
            }
            List<int[]> parts = parts(text, length[t]);
            boolean whole = parts == null;
            if (whole) {
                parts = new ArrayList<>();
                parts.add(new int[] {0, length[t] - 1});
            }
            parts.removeIf(p -> p[0] > p[1]);
            int[] times = new int[4096];
            boolean[] wanted = new boolean[4096];
            boolean common = false;
            for (int[] part : parts) {
                for (int p = part[0]; p <= part[1]; p++) {
                    times[p]++;
                    wanted[p] = true;
                    common |= times[p] > 1;
                }
            }
            rows = common || parts.size() > 3 ? spans(wanted) : parts;
            places = count(wanted);
            for (int p = 0; p < 4096; p++) {
                wanted[p] &= !held[t][p];
            }
            heldThen = places - count(wanted);
            search(spans(wanted));
            of = t;
            if (whole || !rows.isEmpty()) {
                use(t);
            }
            return whole ? 0 : rows.isEmpty() ? 2 : 1;
        }

        /** Tries for each span where the last fetch may begin: the cheapest, then the fewest. */
        void search(List<int[]> spans) {
            int n = spans.size();
            long[] best = new long[n + 1];
            int[] from = new int[n + 1];
            for (int k = 1; k <= n; k++) {
                best[k] = Long.MAX_VALUE;
                for (int j = 0; j < k; j++) {
                    long price = cost + spans.get(k - 1)[1] - spans.get(j)[0] + 1;
                    long all = best[j] + price * 100000L + 1;
                    if (all < best[k]) {
                        best[k] = all;
                        from[k] = j;
                    }
                }
            }
            price = (int) (best[n] / 100000L);
            plan = new ArrayList<>();
            for (int k = n; k > 0; k = from[k]) {
                plan.add(0, new int[] {spans.get(from[k])[0], spans.get(k - 1)[1]});
            }
        }

        int told(int what) {
            int[] all = {rows.size(), places, heldThen, plan.size(), price, of};
            return of == -1 || what < 0 || what > 5 ? -1 : all[what];
        }

        int about(int t, int what) {
            if (!is(t) || what < 0 || what > 3) {
                return -1;
            }
            int missing = -1;
            for (int p = length[t] - 1; p >= 0; p--) {
                missing = held[t][p] ? missing : p;
            }
            return new int[] {length[t], count(held[t]), spans(held[t]).size(), missing}[what];
        }
    }
}
