import java.util.ArrayList;
import java.util.List;
import java.util.regex.Pattern;

/** The document word by word: sets are rows of booleans, places go one by one, plans are searched for. */
final class Model {
    private static final String PART = "(\\d{1,5}-\\d{0,5}|-\\d{1,5})";
    private static final Pattern TEXT = Pattern.compile("bytes=" + PART + "(," + PART + "){0,5}");

    final boolean[][] held = new boolean[6][4096];
    final int[] length = {-1, -1, -1, -1, -1, -1};
    final int[] tag = new int[6];
    final List<Integer> used = new ArrayList<>();
    final StringBuilder tape = new StringBuilder();
    int room = 8000;
    int cost = 100;
    List<int[]> rows = new ArrayList<>();
    List<int[]> plan = new ArrayList<>();
    int places;
    int heldThen;
    int price;
    int of = -1;

    boolean is(int t) {
        return t >= 0 && t < 6;
    }

    boolean type(long word, int n) {
        if (n < 1 || n > 8 || tape.length() + n > 60) {
            return false;
        }
        StringBuilder more = new StringBuilder();
        for (int k = 0; k < n; k++) {
            char c = (char) (word >> 8 * k & 255);
            if (c < 33 || c > 126) {
                return false;
            }
            more.insert(0, c);
        }
        tape.append(more);
        return true;
    }

    boolean thing(int t, int l, int g) {
        if (!is(t) || l < 0 || l > 4095) {
            return false;
        }
        if (length[t] != l || tag[t] != g) {
            held[t] = new boolean[4096];
        }
        length[t] = l;
        tag[t] = g;
        return true;
    }

    boolean forget(int t) {
        if (!is(t)) {
            return false;
        }
        length[t] = -1;
        held[t] = new boolean[4096];
        return true;
    }

    boolean set(int what, int v) {
        if (what == 0 && v >= 0 && v <= 20000) {
            room = v;
            makeRoom();
            return true;
        }
        if (what == 1 && v >= 0 && v <= 1000) {
            cost = v;
            return true;
        }
        return false;
    }

    int got(int t, int a, int b, int g) {
        if (!is(t) || length[t] == -1 || tag[t] != g || a < 0 || a > b || b >= length[t]) {
            return -1;
        }
        int fresh = 0;
        for (int p = a; p <= b; p++) {
            fresh += held[t][p] ? 0 : 1;
            held[t][p] = true;
        }
        use(t);
        makeRoom();
        return fresh;
    }

    void use(int t) {
        used.remove(Integer.valueOf(t));
        used.add(t);
    }

    int count(boolean[] set) {
        int n = 0;
        for (boolean b : set) {
            n += b ? 1 : 0;
        }
        return n;
    }

    void makeRoom() {
        int all = 0;
        for (boolean[] set : held) {
            all += count(set);
        }
        for (int t : used) {
            for (int p = 4095; p >= 0 && all > room; p--) {
                all -= held[t][p] ? 1 : 0;
                held[t][p] = false;
            }
        }
    }

    /** The parts of a text as {first, last}, or null if it is none. */
    List<int[]> parts(String text, int n) {
        if (!TEXT.matcher(text).matches()) {
            return null;
        }
        List<int[]> parts = new ArrayList<>();
        for (String part : text.substring(6).split(",")) {
            String[] ends = part.split("-", 2);
            if (ends[0].isEmpty()) {
                parts.add(new int[] {Math.max(0, n - Integer.parseInt(ends[1])), n - 1});
                continue;
            }
            int a = Integer.parseInt(ends[0]);
            int b = ends[1].isEmpty() ? Integer.MAX_VALUE : Integer.parseInt(ends[1]);
            if (a > b) {
                return null;
            }
            parts.add(new int[] {a, Math.min(b, n - 1)});
        }
        return parts;
    }

    List<int[]> spans(boolean[] set) {
        List<int[]> spans = new ArrayList<>();
        for (int p = 0; p < set.length; p++) {
            if (set[p] && (p == 0 || !set[p - 1])) {
                spans.add(new int[] {p, p});
            } else if (set[p]) {
                spans.get(spans.size() - 1)[1] = p;
            }
        }
        return spans;
    }

    int answer(int t) {
        String text = tape.toString();
        tape.setLength(0);
        if (!is(t) || length[t] == -1) {
            return Check.BAD_ARGUMENT;
        }
        List<int[]> parts = parts(text, length[t]);
        boolean whole = parts == null;
        if (whole) {
            parts = new ArrayList<>();
            parts.add(new int[] {0, length[t] - 1});
        }
        parts.removeIf(p -> p[0] > p[1]);
        int[] times = new int[4096];
        boolean[] wanted = new boolean[4096];
        boolean common = false;
        for (int[] part : parts) {
            for (int p = part[0]; p <= part[1]; p++) {
                times[p]++;
                wanted[p] = true;
                common |= times[p] > 1;
            }
        }
        rows = common || parts.size() > 3 ? spans(wanted) : parts;
        places = count(wanted);
        for (int p = 0; p < 4096; p++) {
            wanted[p] &= !held[t][p];
        }
        heldThen = places - count(wanted);
        search(spans(wanted));
        of = t;
        if (whole || !rows.isEmpty()) {
            use(t);
        }
        return whole ? 0 : rows.isEmpty() ? 2 : 1;
    }

    /** Tries for each span where the last fetch may begin: the cheapest, then the fewest. */
    void search(List<int[]> spans) {
        int n = spans.size();
        long[] best = new long[n + 1];
        int[] from = new int[n + 1];
        for (int k = 1; k <= n; k++) {
            best[k] = Long.MAX_VALUE;
            for (int j = 0; j < k; j++) {
                long price = cost + spans.get(k - 1)[1] - spans.get(j)[0] + 1;
                long all = best[j] + price * 100000L + 1;
                if (all < best[k]) {
                    best[k] = all;
                    from[k] = j;
                }
            }
        }
        price = (int) (best[n] / 100000L);
        plan = new ArrayList<>();
        for (int k = n; k > 0; k = from[k]) {
            plan.add(0, new int[] {spans.get(from[k])[0], spans.get(k - 1)[1]});
        }
    }

    int row(int i, boolean end) {
        return i < 0 || i >= rows.size() ? Check.NO_ELEMENT : rows.get(i)[end ? 1 : 0];
    }

    int fetch(int i, boolean end) {
        return i < 0 || i >= plan.size() ? Check.NO_ELEMENT : plan.get(i)[end ? 1 : 0];
    }

    boolean held(int t, int place) {
        return is(t) && place >= 0 && place < 4096 && held[t][place];
    }

    int told(int what) {
        int[] all = {rows.size(), places, heldThen, plan.size(), price, of};
        return of == -1 || what < 0 || what > 5 ? -1 : all[what];
    }

    int about(int t, int what) {
        if (!is(t) || what < 0 || what > 3) {
            return -1;
        }
        int missing = -1;
        for (int p = length[t] - 1; p >= 0; p--) {
            missing = held[t][p] ? missing : p;
        }
        return new int[] {length[t], count(held[t]), spans(held[t]).size(), missing}[what];
    }
}
