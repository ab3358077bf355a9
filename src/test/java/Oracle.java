import java.math.BigInteger;
import java.util.ArrayList;
import java.util.Comparator;
import java.util.List;

/**
 * The document's words, taken one by one with no thought of speed: lists of all spans, every pair
 * of spans compared, every point of the table asked. It is what the random runs are measured by.
 */
final class Oracle {
    static final int[] X = {1000, 966, 866, 707, 500, 259, 0, -259, -500, -707, -866, -966};

    static int xOf(int d) {
        int e = Math.floorMod(d, 24);
        return e < 12 ? X[e] : -X[e - 12];
    }

    static int yOf(int d) {
        return xOf(d - 6);
    }

    static final class Step {
        int direction;
        int length;
        int colour;
        boolean marked;
    }

    static final class Piece {
        int kind;
        final List<Step> steps = new ArrayList<>();
        boolean closed;
        Integer tenths;
        Integer circle;

        boolean shows() {
            return kind == 3 || kind == 4;
        }

        boolean isBreak(int k) {
            return kind == 1 ? !steps.get(k).marked : kind != 4 || steps.get(k).marked;
        }

        long[] place(int k, int turn) {
            long x = 0;
            long y = 0;
            for (Step s : steps.subList(0, k)) {
                x += (long) s.length * xOf(s.direction + turn);
                y += (long) s.length * yOf(s.direction + turn);
            }
            return new long[] {x, y};
        }

        long area(int turn) {
            long sum = 0;
            int count = steps.size() + 1;
            for (int k = 0; k < count; k++) {
                long[] p = place(k, turn);
                long[] q = place((k + 1) % count, turn);
                sum += p[0] * q[1] - q[0] * p[1];
            }
            return Math.abs(sum);
        }
    }

    record Fit(int a, int i, int b, int j, int t, int n, int longness, int miss) {
        boolean has(int piece, int step, Oracle o) {
            for (int k = 0; k < n; k++) {
                if (piece == a && step == (i + k) % o.size(a) || piece == b && step == Math.floorMod(j - k, o.size(b))) {
                    return true;
                }
            }
            return false;
        }
    }

    record Joint(int a, int i, int b, int j, int t, int n, boolean hand, long when) { }

    static final Comparator<Fit> ORDER = Comparator.comparingInt((Fit f) -> -f.longness).thenComparingInt(Fit::miss)
            .thenComparingInt(Fit::a).thenComparingInt(Fit::b).thenComparingInt(Fit::i)
            .thenComparingInt(Fit::j).thenComparingInt(Fit::t);

    final List<Piece> pieces = new ArrayList<>();
    final Joint[] joints = new Joint[40];
    int least = 6;
    int thickApart = 10;
    int roundMost = 3000;
    int share = 3;
    int fittedLong = -1;
    int fittedMiss = -1;
    List<Fit> latestSpans = List.of();
    int latestRound = -1;
    int[] latestLies = {-1, -1, -1};
    long clock = 0;

    int size(int piece) {
        return pieces.get(piece).steps.size();
    }

    boolean is(int piece) {
        return piece >= 0 && piece < pieces.size();
    }

    boolean isStep(int piece, int step) {
        return is(piece) && step >= 0 && step < size(piece);
    }

    int sherd(int kind) {
        if (kind < 0 || kind > 5 || pieces.size() == 12) {
            return -1;
        }
        Piece p = new Piece();
        p.kind = kind;
        pieces.add(p);
        return pieces.size() - 1;
    }

    int step(int sherd, int direction, int length) {
        if (!is(sherd) || direction < 0 || direction > 23 || length < 1 || length > 12) {
            return -1;
        }
        Piece p = pieces.get(sherd);
        if (p.closed || p.steps.size() == 20) {
            return -1;
        }
        Step s = new Step();
        s.direction = direction;
        s.length = length;
        p.steps.add(s);
        return p.steps.size();
    }

    int close(int sherd) {
        if (!is(sherd) || pieces.get(sherd).closed || size(sherd) < 3) {
            return -1;
        }
        long[] end = pieces.get(sherd).place(size(sherd), 0);
        long miss = Math.max(Math.abs(end[0]), Math.abs(end[1]));
        if (miss > 2000) {
            return (int) miss;
        }
        pieces.get(sherd).closed = true;
        return 0;
    }

    int jointAt(int piece, int step) {
        for (int k = 0; k < 40; k++) {
            Joint q = joints[k];
            if (q != null && new Fit(q.a, q.i, q.b, q.j, q.t, q.n, 0, 0).has(piece, step, this)) {
                return k;
            }
        }
        return -1;
    }

    boolean mark(int sherd, int step, boolean on) {
        if (!isStep(sherd, step) || jointAt(sherd, step) >= 0) {
            return false;
        }
        int kind = pieces.get(sherd).kind;
        if (kind != 1 && kind != 4) {
            return false;
        }
        pieces.get(sherd).steps.get(step).marked = on;
        return true;
    }

    boolean paint(int sherd, int step, int colour) {
        if (!isStep(sherd, step) || jointAt(sherd, step) >= 0 || colour < 0 || colour > 9) {
            return false;
        }
        if (!pieces.get(sherd).shows()) {
            return false;
        }
        pieces.get(sherd).steps.get(step).colour = colour;
        return true;
    }

    boolean thick(int sherd, int bits) {
        if (!is(sherd) || group(sherd, 0) > 1) {
            return false;
        }
        float f = Float.intBitsToFloat(bits);
        if (Float.isNaN(f)) {
            pieces.get(sherd).tenths = null;
            return true;
        }
        if (!(f >= 0 && f <= 1000)) {
            return false;
        }
        pieces.get(sherd).tenths = (int) (10 * (double) f);
        return true;
    }

    boolean circle(int sherd, int circle) {
        if (!is(sherd) || group(sherd, 0) > 1 || pieces.get(sherd).kind != 1 || circle < 1 || circle > 200) {
            return false;
        }
        pieces.get(sherd).circle = circle;
        return true;
    }

    boolean tell(int what, int v) {
        int[] low = {1, 0, 0, 0};
        int[] high = {100, 10000, 100000, 1000};
        if (what < 0 || what > 3 || v < low[what] || v > high[what]) {
            return false;
        }
        if (what == 0) {
            least = v;
        } else if (what == 1) {
            thickApart = v;
        } else if (what == 2) {
            roundMost = v;
        } else {
            share = v;
        }
        return true;
    }

    /** For each piece its root, turn, x, y. */
    long[][] lay() {
        int count = pieces.size();
        long[][] at = new long[count][];
        for (int root = 0; root < count; root++) {
            if (at[root] != null) {
                continue;
            }
            at[root] = new long[] {root, 0, 0, 0};
            List<Integer> laid = new ArrayList<>(List.of(root));
            while (layOneMore(at, laid)) {
                continue;
            }
        }
        return at;
    }

    boolean layOneMore(long[][] at, List<Integer> laid) {
        for (int first : laid) {
            for (int k = 0; k < 40; k++) {
                Joint q = joints[k];
                if (q != null && q.a == first && at[q.b] == null) {
                    at[q.b] = whereItLays(q, at);
                    laid.add(q.b);
                    return true;
                }
                if (q != null && q.b == first && at[q.a] == null) {
                    long turn = Math.floorMod(at[q.b][1] - q.t, 24);
                    long[] p = pieces.get(q.a).place(q.i, (int) turn);
                    long[] r = pieces.get(q.b).place(q.j + 1, (int) at[q.b][1]);
                    at[q.a] = new long[] {at[q.b][0], turn, at[q.b][2] + r[0] - p[0], at[q.b][3] + r[1] - p[1]};
                    laid.add(q.a);
                    return true;
                }
            }
        }
        return false;
    }

    long[] whereItLays(Joint q, long[][] at) {
        long turn = (at[q.a][1] + q.t) % 24;
        long[] p = pieces.get(q.a).place(q.i, (int) at[q.a][1]);
        long[] r = pieces.get(q.b).place(q.j + 1, (int) turn);
        return new long[] {at[q.a][0], turn, at[q.a][2] + p[0] - r[0], at[q.a][3] + p[1] - r[1]};
    }

    int missOf(Joint q) {
        long[][] at = lay();
        long[] by = whereItLays(q, at);
        if (by[1] != at[q.b][1]) {
            return 1000000000;
        }
        return (int) Math.max(Math.abs(by[2] - at[q.b][2]), Math.abs(by[3] - at[q.b][3]));
    }

    int look(int sherd, int what) {
        if (!is(sherd)) {
            throw new IndexOutOfBoundsException();
        }
        Piece p = pieces.get(sherd);
        switch (what) {
            case 0: return p.kind;
            case 1: return p.steps.size();
            case 2: return p.closed ? 1 : 0;
            case 3: return p.tenths == null ? -1 : p.tenths;
            case 4: return p.circle == null ? -1 : p.circle;
            case 5: case 6: case 7: case 8: return (int) lay()[sherd][what - 5];
            case 9:
                int count = 0;
                for (int k = 0; k < size(sherd); k++) {
                    count += jointAt(sherd, k) >= 0 ? 1 : 0;
                }
                return count;
            default: throw new java.util.NoSuchElementException();
        }
    }

    int edge(int sherd, int step, int what) {
        if (!isStep(sherd, step)) {
            throw new IndexOutOfBoundsException();
        }
        Step s = pieces.get(sherd).steps.get(step);
        switch (what) {
            case 0: return s.direction;
            case 1: return s.length;
            case 2: return pieces.get(sherd).isBreak(step) ? 1 : 0;
            case 3: return pieces.get(sherd).shows() ? s.colour : 0;
            case 4: return jointAt(sherd, step);
            default: throw new java.util.NoSuchElementException();
        }
    }

    long area(int sherd, int t) {
        return !is(sherd) || t < 0 || t > 23 || !pieces.get(sherd).closed ? -1 : pieces.get(sherd).area(t);
    }

    boolean bothClosed(int a, int b) {
        return is(a) && is(b) && a != b && pieces.get(a).closed && pieces.get(b).closed;
    }

    boolean refusedBy1(int a, int i, int b, int j, int t) {
        return !bothClosed(a, b) || !isStep(a, i) || !isStep(b, j) || t < 0 || t > 23;
    }

    Fit fitOf(int a, int i, int b, int j, int t) {
        Piece p = pieces.get(a);
        Piece r = pieces.get(b);
        int slack = p.kind == 5 || r.kind == 5 ? 1500 : 600;
        int best = 0;
        int bestLong = 0;
        int bestMiss = 0;
        for (int n = 1; n <= Math.min(size(a), size(b)); n++) {
            boolean fits = true;
            int miss = 0;
            int longA = 0;
            int longB = 0;
            int x = 0;
            int y = 0;
            for (int k = 0; k < n; k++) {
                int sa = (i + k) % size(a);
                int sb = Math.floorMod(j - k, size(b));
                Step u = p.steps.get(sa);
                Step v = r.steps.get(sb);
                fits &= p.isBreak(sa) && r.isBreak(sb) && jointAt(a, sa) < 0 && jointAt(b, sb) < 0;
                fits &= !(p.shows() && r.shows()) || u.colour == v.colour;
                x += u.length * xOf(u.direction) - v.length * xOf(v.direction + 12 + t);
                y += u.length * yOf(u.direction) - v.length * yOf(v.direction + 12 + t);
                miss = Math.max(miss, Math.max(Math.abs(x), Math.abs(y)));
                longA += u.length;
                longB += v.length;
            }
            if (!fits || miss > slack) {
                break;
            }
            best = n;
            bestLong = Math.min(longA, longB);
            bestMiss = miss;
        }
        return new Fit(a, i, b, j, t, best, bestLong, bestMiss);
    }

    Fit fitNamed(int a, int i, int b, int j, int t) {
        return a < b ? fitOf(a, i, b, j, t) : fitOf(b, j, a, i, t);
    }

    int fit(int a, int i, int b, int j, int t) {
        if (refusedBy1(a, i, b, j, t)) {
            return -1;
        }
        Fit f = fitNamed(a, i, b, j, t);
        fittedLong = f.longness;
        fittedMiss = f.miss;
        return f.n;
    }

    int fitted(int what) {
        return what == 0 ? fittedLong : what == 1 ? fittedMiss : -1;
    }

    boolean isSpan(Fit f) {
        int i = Math.floorMod(f.i - 1, size(f.a));
        int j = (f.j + 1) % size(f.b);
        return f.longness >= least && !(fitOf(f.a, i, f.b, j, f.t).n >= f.n + 1);
    }

    List<Fit> spansOf(int a, int b) {
        List<Fit> all = new ArrayList<>();
        for (int i = 0; i < size(a); i++) {
            for (int j = 0; j < size(b); j++) {
                for (int t = 0; t < 24; t++) {
                    Fit f = fitOf(a, i, b, j, t);
                    if (f.n > 0 && isSpan(f)) {
                        all.add(f);
                    }
                }
            }
        }
        all.sort(ORDER);
        return all;
    }

    int spans(int a, int b) {
        if (!bothClosed(a, b)) {
            return -1;
        }
        latestSpans = spansOf(Math.min(a, b), Math.max(a, b));
        return latestSpans.size();
    }

    int span(int k, int what) {
        if (k < 0 || k >= 50 || k >= latestSpans.size() || what < 0 || what > 5) {
            return -1;
        }
        Fit f = latestSpans.get(k);
        return new int[] {f.i, f.j, f.t, f.n, f.longness, f.miss}[what];
    }

    int two(int a, int b) {
        if (!is(a) || !is(b) || a == b) {
            return -1;
        }
        Piece p = pieces.get(a);
        Piece r = pieces.get(b);
        if (p.tenths != null && r.tenths != null && Math.abs(p.tenths - r.tenths) > thickApart) {
            return 1;
        }
        if (p.kind == 2 && r.kind == 2) {
            return 2;
        }
        return p.circle != null && r.circle != null && !p.circle.equals(r.circle) ? 3 : 0;
    }

    int apart(int sherd) {
        if (!is(sherd)) {
            return -1;
        }
        List<List<Integer>> parts = new ArrayList<>();
        int answer = -1;
        for (int k = 0; k < pieces.size(); k++) {
            int one = k;
            List<Integer> part = parts.stream().filter(q -> q.stream().allMatch(m -> two(one, m) == 0))
                    .findFirst().orElse(null);
            if (part == null) {
                part = new ArrayList<>();
                parts.add(part);
            }
            part.add(k);
            if (k == sherd) {
                answer = parts.indexOf(part);
            }
        }
        return answer;
    }

    int free() {
        for (int k = 0; k < 40; k++) {
            if (joints[k] == null) {
                return k;
            }
        }
        return -1;
    }

    int join(int a, int i, int b, int j, int t) {
        if (refusedBy1(a, i, b, j, t)) {
            return -1;
        }
        Fit f = fitNamed(a, i, b, j, t);
        return isSpan(f) ? joinSpan(f) : -2;
    }

    int joinSpan(Fit f) {
        long[][] at = lay();
        long rootA = at[f.a][0];
        long rootB = at[f.b][0];
        for (int k = 0; k < pieces.size(); k++) {
            for (int m = 0; m < pieces.size(); m++) {
                if (rootA != rootB && at[k][0] == rootA && at[m][0] == rootB && two(k, m) != 0) {
                    return -3;
                }
            }
        }
        int number = free();
        if (number < 0) {
            return -4;
        }
        Joint q = new Joint(f.a, f.i, f.b, f.j, f.t, f.n, false, ++clock);
        if (rootA == rootB && missOf(q) > roundMost) {
            latestRound = missOf(q);
            return -5;
        }
        joints[number] = q;
        int[] lies = firstLies(f.a);
        if (lies != null) {
            joints[number] = null;
            latestLies = lies;
            return -6;
        }
        return number;
    }

    int[] firstLies(int one) {
        long[][] at = lay();
        for (int low = 0; low < pieces.size(); low++) {
            for (int high = low + 1; high < pieces.size(); high++) {
                if (at[low][0] == at[one][0] && at[high][0] == at[one][0]) {
                    int points = shared(low, at[low], high, at[high]);
                    if (points > share) {
                        return new int[] {low, high, points};
                    }
                }
            }
        }
        return null;
    }

    long[][] corners(int piece, long[] at) {
        long[][] all = new long[size(piece) + 1][];
        for (int k = 0; k <= size(piece); k++) {
            long[] p = pieces.get(piece).place(k, (int) at[1]);
            all[k] = new long[] {p[0] + at[2], p[1] + at[3]};
        }
        return all;
    }

    int shared(int low, long[] atLow, int high, long[] atHigh) {
        long[][] one = corners(low, atLow);
        long[][] other = corners(high, atHigh);
        long[] from = {Long.MAX_VALUE, Long.MAX_VALUE};
        long[] to = {Long.MIN_VALUE, Long.MIN_VALUE};
        for (long[] c : one) {
            for (int z = 0; z < 2; z++) {
                from[z] = Math.min(from[z], Math.floorDiv(c[z], 1000L) * 1000 - 1000);
                to[z] = Math.max(to[z], Math.floorDiv(c[z], 1000L) * 1000 + 1000);
            }
        }
        int count = 0;
        for (long x = from[0]; x <= to[0]; x += 1000) {
            for (long y = from[1]; y <= to[1]; y += 1000) {
                if (isIn(x + 500, y + 500, one) && isIn(x + 500, y + 500, other)) {
                    count++;
                }
            }
        }
        return count;
    }

    static boolean isIn(long x, long y, long[][] corners) {
        boolean odd = false;
        for (int k = 0; k < corners.length; k++) {
            long[] p = corners[k];
            long[] q = corners[(k + 1) % corners.length];
            boolean crosses = p[1] <= y && y < q[1] || q[1] <= y && y < p[1];
            if (crosses && crossesBeyond(x, y, p, q)) {
                odd = !odd;
            }
        }
        return odd;
    }

    static boolean crossesBeyond(long x, long y, long[] p, long[] q) {
        BigInteger down = BigInteger.valueOf(q[1] - p[1]);
        BigInteger up = BigInteger.valueOf(y - p[1]).multiply(BigInteger.valueOf(q[0] - p[0]));
        BigInteger left = BigInteger.valueOf(x - p[0]).multiply(down);
        return down.signum() > 0 ? up.compareTo(left) > 0 : up.compareTo(left) < 0;
    }

    int hand(int a, int i, int b, int j, int n) {
        if (refusedBy1(a, i, b, j, 0)) {
            return -1;
        }
        if (a > b) {
            return hand(b, j, a, i, n);
        }
        if (n < 1 || n > Math.min(size(a), size(b))) {
            return -2;
        }
        for (int k = 0; k < n; k++) {
            if (jointAt(a, (i + k) % size(a)) >= 0 || jointAt(b, Math.floorMod(j - k, size(b))) >= 0) {
                return -2;
            }
        }
        int number = free();
        if (number < 0) {
            return -4;
        }
        for (int t = 0; t < 24; t++) {
            if ((edge(b, j, 0) + 12 + t) % 24 == edge(a, i, 0)) {
                joints[number] = new Joint(a, i, b, j, t, n, true, ++clock);
            }
        }
        return number;
    }

    int part(int join) {
        if (join < 0 || join >= 40 || joints[join] == null) {
            return -1;
        }
        joints[join] = null;
        return groups();
    }

    int joined(int join, int what) {
        if (join < 0 || join >= 40 || joints[join] == null || what < 0 || what > 7) {
            return -1;
        }
        Joint q = joints[join];
        return what == 7 ? missOf(q) : new int[] {q.a, q.i, q.b, q.j, q.t, q.n, q.hand ? 1 : 0}[what];
    }

    int round() {
        return latestRound;
    }

    int lies(int what) {
        return what < 0 || what > 2 ? -1 : latestLies[what];
    }

    int order() {
        int made = 0;
        while (joinFirstSure()) {
            made++;
        }
        return made;
    }

    boolean joinFirstSure() {
        List<Fit> all = new ArrayList<>();
        for (int a = 0; a < pieces.size(); a++) {
            for (int b = a + 1; b < pieces.size(); b++) {
                if (bothClosed(a, b)) {
                    all.addAll(spansOf(a, b));
                }
            }
        }
        all.sort(ORDER);
        for (Fit f : all) {
            if (isAlone(f, all) && joinSpan(f) >= 0) {
                return true;
            }
        }
        return false;
    }

    boolean isAlone(Fit f, List<Fit> all) {
        for (Fit g : all) {
            if (g == f || g.longness < f.longness) {
                continue;
            }
            for (int k = 0; k < f.n; k++) {
                if (g.has(f.a, (f.i + k) % size(f.a), this) || g.has(f.b, Math.floorMod(f.j - k, size(f.b)), this)) {
                    return false;
                }
            }
        }
        return true;
    }

    int groups() {
        long[][] at = lay();
        int count = 0;
        for (int k = 0; k < pieces.size(); k++) {
            count += at[k][0] == k ? 1 : 0;
        }
        return count;
    }

    long group(int sherd, int what) {
        if (!is(sherd) || what < 0 || what > 3) {
            return -1;
        }
        long[][] at = lay();
        long[] answer = {0, 0, 0, -1};
        for (Joint q : joints) {
            answer[1] += q != null && at[q.a][0] == at[sherd][0] ? 1 : 0;
        }
        Integer circle = null;
        for (int k = 0; k < pieces.size(); k++) {
            Piece p = pieces.get(k);
            if (at[k][0] == at[sherd][0]) {
                answer[0]++;
                answer[2] += p.closed ? p.area(0) : 0;
                circle = circle == null ? p.circle : circle;
            }
        }
        if (circle != null) {
            answer[3] = Math.max(0, 6283185L * circle * circle - answer[2]);
        }
        return answer[what];
    }

    int joins() {
        int count = 0;
        for (Joint q : joints) {
            count += q != null ? 1 : 0;
        }
        return count;
    }

    int undo(int n) {
        if (n < 0 || n > joins()) {
            return -1;
        }
        for (int k = 0; k < n; k++) {
            int latest = -1;
            for (int m = 0; m < 40; m++) {
                if (joints[m] != null && (latest < 0 || joints[m].when > joints[latest].when)) {
                    latest = m;
                }
            }
            joints[latest] = null;
        }
        return joins();
    }
}
