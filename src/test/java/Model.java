import java.util.ArrayDeque;
import java.util.ArrayList;
import java.util.Deque;
import java.util.HashSet;
import java.util.List;
import java.util.Set;
import java.util.TreeSet;

/**
 * The document read word by word, dot by dot, with nothing kept between calls but the state:
 * slow, and made in another way than BlobRuns (floods of dots, no runs), so that the two can be compared.
 */
final class Model {
    private static final int N = 16;
    private static final int NONE = BlobRuns.NONE, UNKNOWN = BlobRuns.UNKNOWN, OUTSIDE = BlobRuns.OUTSIDE, NOT = BlobRuns.NOT;

    private record State(boolean[] dots, int mode) { }
    private record Image(State state, long seed) { }

    private boolean[] dots = new boolean[N * N];
    private int mode = 4;
    private long seed = 0;
    private final Deque<State> past = new ArrayDeque<>();
    private final Image[] images = new Image[2];

    // ---- parts, by floods

    private boolean touches(int a, int b, boolean corners) {
        int dr = Math.abs(a / N - b / N), dc = Math.abs(a % N - b % N);
        return corners ? Math.max(dr, dc) == 1 : dr + dc == 1;
    }

    private List<Integer> around(int place, boolean corners) {
        List<Integer> found = new ArrayList<>();
        for (int dr = -1; dr <= 1; dr++) {
            for (int dc = -1; dc <= 1; dc++) {
                int r = place / N + dr, c = place % N + dc;
                if (r >= 0 && r < N && c >= 0 && c < N && touches(place, r * N + c, corners)) {
                    found.add(r * N + c);
                }
            }
        }
        return found;
    }

    /** All groups of one colour, each as its places rising, in the order of their least places. */
    private List<TreeSet<Integer>> groups(boolean[] of, boolean dark) {
        boolean corners = (mode == 8) == dark;
        boolean[] seen = new boolean[N * N];
        List<TreeSet<Integer>> all = new ArrayList<>();
        for (int place = 0; place < N * N; place++) {
            if (of[place] != dark || seen[place]) {
                continue;
            }
            TreeSet<Integer> group = new TreeSet<>();
            Deque<Integer> open = new ArrayDeque<>(List.of(place));
            seen[place] = true;
            while (!open.isEmpty()) {
                int at = open.pop();
                group.add(at);
                for (int next : around(at, corners)) {
                    if (of[next] == dark && !seen[next]) {
                        seen[next] = true;
                        open.push(next);
                    }
                }
            }
            all.add(group);
        }
        return all;
    }

    private List<TreeSet<Integer>> parts() {
        return groups(dots, true);
    }

    private List<TreeSet<Integer>> holes() {
        List<TreeSet<Integer>> holes = groups(dots, false);
        holes.removeIf(g -> g.stream().anyMatch(p -> p / N == 0 || p / N == 15 || p % N == 0 || p % N == 15));
        return holes;
    }

    private static int indexOf(List<TreeSet<Integer>> groups, int place) {
        for (int i = 0; i < groups.size(); i++) {
            if (groups.get(i).contains(place)) {
                return i;
            }
        }
        return NONE;
    }

    private static int ofHole(int h, List<TreeSet<Integer>> parts, List<TreeSet<Integer>> holes) {
        return indexOf(parts, holes.get(h).first() - N);
    }

    private static int liesIn(int p, List<TreeSet<Integer>> parts, List<TreeSet<Integer>> holes) {
        int least = parts.get(p).first();
        return least < N ? NONE : indexOf(holes, least - N);
    }

    private static int deep(int p, List<TreeSet<Integer>> parts, List<TreeSet<Integer>> holes) {
        int h = liesIn(p, parts, holes);
        return h == NONE ? 0 : 1 + deep(ofHole(h, parts, holes), parts, holes);
    }

    private int rim(Set<Integer> part) {
        int sides = 0;
        for (int place : part) {
            sides += 4;
            for (int next : around(place, false)) {
                sides -= dots[next] ? 1 : 0;
            }
        }
        return sides;
    }

    private int count() {
        int n = 0;
        for (boolean d : dots) {
            n += d ? 1 : 0;
        }
        return n;
    }

    private int runs(int r) {
        int n = 0;
        for (int c = 0; c < N; c++) {
            n += dots[r * N + c] && (c == 0 || !dots[r * N + c - 1]) ? 1 : 0;
        }
        return n;
    }

    private int set(int r) {
        int set = 0;
        for (int c = 0; c < N; c++) {
            set += dots[r * N + c] ? 1 << c : 0;
        }
        return set;
    }

    private static boolean in(int v, int least, int most) {
        return v >= least && v <= most;
    }

    // ---- the picture

    int told(int what) {
        List<TreeSet<Integer>> parts = parts(), holes = holes();
        int answer = NONE;
        switch (what) {
            case 0: return mode;
            case 1: return count();
            case 2: return parts.size();
            case 3: return holes.size();
            case 4: return groups(dots, false).size();
            case 5: return euler() + 1000;
            case 6:
                answer = 0;
                for (int r = 0; r < N; r++) {
                    answer += runs(r);
                }
                return answer;
            case 7:
                answer = 0;
                for (Set<Integer> part : parts) {
                    answer += rim(part);
                }
                return answer;
            case 8:
                for (int p = 0; p < parts.size(); p++) {
                    answer = Math.max(answer, deep(p, parts, holes));
                }
                return answer;
            case 9:
                for (int p = parts.size() - 1; p >= 0; p--) {
                    answer = answer == NONE || parts.get(p).size() >= parts.get(answer).size() ? p : answer;
                }
                return answer;
            case 10: return past.size();
            default: return OUTSIDE;
        }
    }

    /** Dots less sides and corners between them: by another way than parts less holes, and the same. */
    private int euler() {
        int corners = 0, sides = 0;
        for (int r = 0; r <= N; r++) {
            for (int c = 0; c <= N; c++) {
                boolean nw = at(r - 1, c - 1), ne = at(r - 1, c), sw = at(r, c - 1), se = at(r, c);
                if (mode == 8) {
                    corners += nw || ne || sw || se ? 1 : 0;
                    sides += (ne || se ? 1 : 0) + (sw || se ? 1 : 0);
                } else {
                    corners += nw && ne && sw && se ? 1 : 0;
                    sides += (ne && se ? 1 : 0) + (sw && se ? 1 : 0);
                }
            }
        }
        return corners - sides + count();
    }

    private boolean at(int r, int c) {
        return in(r, 0, 15) && in(c, 0, 15) && dots[r * N + c];
    }

    int rowAt(int r, int what) {
        if (!in(r, 0, 15)) {
            return UNKNOWN;
        }
        return what == 0 ? set(r) : what == 1 ? runs(r) : OUTSIDE;
    }

    int dot(int r, int c, int what) {
        if (!in(r, 0, 15) || !in(c, 0, 15)) {
            return UNKNOWN;
        }
        int place = r * N + c;
        switch (what) {
            case 0: return dots[place] ? 1 : 0;
            case 1: return dots[place] ? indexOf(parts(), place) : NONE;
            case 2: return dots[place] ? NONE : indexOf(holes(), place);
            case 3: return dots[place] ? NONE : joins(place);
            case 4: return dots[place] ? splits(place) : NONE;
            default: return OUTSIDE;
        }
    }

    private int joins(int place) {
        boolean[] with = dots.clone();
        with[place] = true;
        Set<Integer> joined = groups(with, true).get(indexOf(groups(with, true), place));
        Set<Integer> old = new HashSet<>();
        for (int p : joined) {
            if (p != place) {
                old.add(indexOf(parts(), p));
            }
        }
        return old.size();
    }

    private int splits(int place) {
        boolean[] own = new boolean[N * N];
        for (int p : parts().get(indexOf(parts(), place))) {
            own[p] = p != place;
        }
        return groups(own, true).size();
    }

    int part(int p, int what) {
        List<TreeSet<Integer>> parts = parts(), holes = holes();
        if (!in(p, 0, parts.size() - 1)) {
            return UNKNOWN;
        }
        TreeSet<Integer> part = parts.get(p);
        switch (what) {
            case 0: return part.size();
            case 1: return rim(part);
            case 2: return part.stream().mapToInt(x -> x / N).min().getAsInt();
            case 3: return part.stream().mapToInt(x -> x / N).max().getAsInt();
            case 4: return part.stream().mapToInt(x -> x % N).min().getAsInt();
            case 5: return part.stream().mapToInt(x -> x % N).max().getAsInt();
            case 6:
                int of = 0;
                for (int h = 0; h < holes.size(); h++) {
                    of += ofHole(h, parts, holes) == p ? 1 : 0;
                }
                return of;
            case 7: return liesIn(p, parts, holes);
            case 8: return deep(p, parts, holes);
            case 9: return part.first();
            default: return OUTSIDE;
        }
    }

    int hole(int h, int what) {
        List<TreeSet<Integer>> parts = parts(), holes = holes();
        if (!in(h, 0, holes.size() - 1)) {
            return UNKNOWN;
        }
        switch (what) {
            case 0: return holes.get(h).size();
            case 1: return ofHole(h, parts, holes);
            case 2:
                int inside = 0;
                for (int p = 0; p < parts.size(); p++) {
                    inside += liesIn(p, parts, holes) == h ? 1 : 0;
                }
                return inside;
            case 3: return holes.get(h).first();
            default: return OUTSIDE;
        }
    }

    // ---- deeds

    private void deed() {
        past.push(new State(dots.clone(), mode));
        if (past.size() > 30) {
            past.removeLast();
        }
    }

    int row(int r, int set) {
        if (!in(r, 0, 15)) {
            return UNKNOWN;
        }
        if (!in(set, 0, 65535)) {
            return OUTSIDE;
        }
        deed();
        for (int c = 0; c < N; c++) {
            dots[r * N + c] = (set / (1 << c)) % 2 == 1;
        }
        return parts().size();
    }

    int turn(int r, int c) {
        if (!in(r, 0, 15) || !in(c, 0, 15)) {
            return UNKNOWN;
        }
        deed();
        dots[r * N + c] = !dots[r * N + c];
        return dots[r * N + c] ? 1 : 0;
    }

    int wipe(int p) {
        List<TreeSet<Integer>> parts = parts();
        if (!in(p, 0, parts.size() - 1)) {
            return UNKNOWN;
        }
        deed();
        parts.get(p).forEach(x -> dots[x] = false);
        return parts.get(p).size();
    }

    int fill(int h) {
        List<TreeSet<Integer>> holes = holes();
        if (!in(h, 0, holes.size() - 1)) {
            return UNKNOWN;
        }
        deed();
        holes.get(h).forEach(x -> dots[x] = true);
        return holes.get(h).size();
    }

    int grow() {
        deed();
        int before = count();
        boolean[] next = dots.clone();
        for (int p = 0; p < N * N; p++) {
            for (int q : around(p, mode == 8)) {
                next[p] |= dots[q];
            }
        }
        dots = next;
        return count() - before;
    }

    int shrink() {
        deed();
        int before = count();
        boolean[] next = dots.clone();
        for (int p = 0; p < N * N; p++) {
            List<Integer> near = around(p, mode == 8);
            next[p] &= near.size() == mode && near.stream().allMatch(q -> dots[q]);
        }
        dots = next;
        return before - count();
    }

    int move(int down, int right) {
        if (!in(down, -15, 15) || !in(right, -15, 15)) {
            return OUTSIDE;
        }
        deed();
        boolean[] next = new boolean[N * N];
        for (int p = 0; p < N * N; p++) {
            int r = p / N + down, c = p % N + right;
            if (dots[p] && in(r, 0, 15) && in(c, 0, 15)) {
                next[r * N + c] = true;
            }
        }
        dots = next;
        return count();
    }

    int over() {
        deed();
        for (int p = 0; p < N * N; p++) {
            dots[p] = !dots[p];
        }
        return count();
    }

    int mode(int m) {
        if (m != 4 && m != 8) {
            return OUTSIDE;
        }
        if (m == mode) {
            return NOT;
        }
        deed();
        mode = m;
        return parts().size();
    }

    int drift(int n) {
        if (!in(n, 1, 60)) {
            return OUTSIDE;
        }
        for (int i = 0; i < n; i++) {
            seed = (seed * 1103515245L + 12345L) % (1L << 31);
            int place = (int) (seed / 65536 % 256);
            deed();
            dots[place] = !dots[place];
        }
        return count();
    }

    int undo(int n) {
        if (!in(n, 1, 30)) {
            return OUTSIDE;
        }
        if (n > past.size()) {
            return NOT;
        }
        for (int i = 0; i < n; i++) {
            State back = past.pop();
            dots = back.dots();
            mode = back.mode();
        }
        return count();
    }

    // ---- asked

    int alike(int p, int q) {
        List<TreeSet<Integer>> parts = parts();
        if (!in(p, 0, parts.size() - 1) || !in(q, 0, parts.size() - 1) || p == q) {
            return UNKNOWN;
        }
        return atOrigin(p).equals(atOrigin(q)) ? 1 : 0;
    }

    private Set<List<Integer>> atOrigin(int p) {
        Set<List<Integer>> moved = new HashSet<>();
        int top = part(p, 2), left = part(p, 4);
        for (int x : parts().get(p)) {
            moved.add(List.of(x / N - top, x % N - left));
        }
        return moved;
    }

    int small(int n) {
        return in(n, 0, 256) ? (int) parts().stream().filter(p -> p.size() <= n).count() : OUTSIDE;
    }

    // ---- images

    int seed(int v) {
        if (v < 0) {
            return OUTSIDE;
        }
        int was = (int) seed;
        seed = v;
        return was;
    }

    int keep(int i) {
        if (!in(i, 0, 1)) {
            return UNKNOWN;
        }
        images[i] = new Image(new State(dots.clone(), mode), seed);
        past.clear();
        return 1;
    }

    int goBack(int i) {
        if (!in(i, 0, 1)) {
            return UNKNOWN;
        }
        if (images[i] == null) {
            return NOT;
        }
        dots = images[i].state().dots().clone();
        mode = images[i].state().mode();
        seed = images[i].seed();
        past.clear();
        return 1;
    }
}
