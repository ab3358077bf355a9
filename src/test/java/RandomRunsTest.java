import java.util.ArrayList;
import java.util.List;
import java.util.NoSuchElementException;
import java.util.Random;

/** Random runs (the same ones each time) on a SherdTable and on the Oracle, every answer compared. */
public final class RandomRunsTest {
    private static final int RUNS = Integer.getInteger("runs", 400);
    private static final int FIRST = Integer.getInteger("first", 0);

    private final Random random;
    private final int run;
    private final SherdTable table = new SherdTable();
    private final Oracle oracle = new Oracle();
    private final List<String> calls = new ArrayList<>();
    private final int[] seen;
    private boolean wrong = false;

    private RandomRunsTest(int run, int[] seen) {
        this.run = run;
        this.seen = seen;
        random = new Random(7919L * run + 13);
    }

    public static void main(String[] args) {
        int wrongRuns = 0;
        int[] seen = new int[16];
        for (int run = FIRST; run < FIRST + RUNS && wrongRuns < 3; run++) {
            RandomRunsTest one = new RandomRunsTest(run, seen);
            one.go();
            wrongRuns += one.wrong ? 1 : 0;
        }
        for (int k = 2; k <= 6; k++) {
            System.out.println("joins refused by " + k + ": " + seen[k]);
            wrongRuns += RUNS >= 400 && seen[k] == 0 ? 1 : 0;
        }
        System.out.println("joins made: " + seen[0] + ", by hand: " + seen[7] + ", by order: " + seen[8]
                + ", that miss: " + seen[9]);
        System.out.println(wrongRuns == 0 ? "all answers are as due" : wrongRuns + " runs went wrong");
        if (wrongRuns != 0) {
            System.exit(1);
        }
    }

    private void check(String call, long got, long due) {
        calls.add(call + " = " + got);
        if (got != due && !wrong) {
            wrong = true;
            System.out.println("run " + run + ": " + call + " answered " + got + ", due is " + due);
            for (String c : calls.subList(Math.max(0, calls.size() - 400), calls.size())) {
                if (!c.startsWith("look") && !c.startsWith("edge") && !c.startsWith("group(") && !c.startsWith("joined")) {
                    System.out.println("    " + c);
                }
            }
        }
    }

    private int pick(int below) {
        return random.nextInt(below);
    }

    private void go() {
        int pieces = 2 + pick(run % 8 == 0 ? 7 : 4);
        for (int k = 0; k < pieces; k++) {
            newSherd();
        }
        if (run % 50 == 49) {
            crowd();
        }
        if (pick(2) == 0) {
            callTell();
        }
        int count = 30 + pick(40);
        for (int k = 0; k < count && !wrong; k++) {
            callAny();
            lookAll();
        }
    }

    /** Many JOINS by hand, so that the forty-first is met too. */
    private void crowd() {
        for (int s = oracle.pieces.size(); s < 12; s++) {
            check("sherd(0)", table.sherd(0), oracle.sherd(0));
            for (int k = 0; k < 12; k++) {
                addStep(s, 2 * k, 7);
            }
            check("close(" + s + ")", table.close(s), oracle.close(s));
        }
        for (int k = 0; k < 300; k++) {
            handOne(1);
        }
    }

    private void callAny() {
        switch (pick(26)) {
            case 0: callMark(); break;
            case 1: callPaint(); break;
            case 2: callThick(); break;
            case 3: callCircle(); break;
            case 4: callTell(); break;
            case 5: case 6: callFit(); break;
            case 7: case 8: callSpans(); break;
            case 9: case 10: case 11: case 12: case 13: case 14: case 15: case 16: callJoin(); break;
            case 17: case 18: callHand(); break;
            case 19: callPart(); break;
            case 20: callUndo(); break;
            case 21: callOrder(); break;
            case 22: callQueries(); break;
            case 23: newSherd(); break;
            case 24: callStepOrClose(); break;
            default: callMark(); break;
        }
    }

    private void lookAll() {
        int count = oracle.pieces.size();
        for (int s = 0; s < count; s++) {
            for (int what = 0; what < 10; what++) {
                check("look(" + s + ", " + what + ")", table.look(s, what), oracle.look(s, what));
            }
            for (int what = 0; what < 4; what++) {
                check("group(" + s + ", " + what + ")", table.group(s, what), oracle.group(s, what));
            }
            for (int k = 0; k < oracle.size(s); k++) {
                for (int what = 0; what < 5; what++) {
                    check("edge(" + s + ", " + k + ", " + what + ")", table.edge(s, k, what), oracle.edge(s, k, what));
                }
            }
            check("apart(" + s + ")", table.apart(s), oracle.apart(s));
        }
        for (int q = 0; q < 40; q++) {
            for (int what = 0; what < 8; what++) {
                int due = oracle.joined(q, what);
                check("joined(" + q + ", " + what + ")", table.joined(q, what), due);
                seen[9] += what == 7 && due > 0 ? 1 : 0;
            }
        }
        check("groups()", table.groups(), oracle.groups());
        check("round()", table.round(), oracle.round());
        for (int what = -1; what < 4; what++) {
            check("lies(" + what + ")", table.lies(what), oracle.lies(what));
            check("fitted(" + what + ")", table.fitted(what), oracle.fitted(what));
        }
        for (int k = -1; k < 52; k++) {
            for (int what = -1; what < 7; what++) {
                check("span(" + k + ", " + what + ")", table.span(k, what), oracle.span(k, what));
            }
        }
    }

    private int[] kinds() {
        return new int[] {0, 0, 1, 2, 3, 4, 5, 5};
    }

    private void newSherd() {
        int kind = pick(20) == 0 ? pick(9) - 2 : kinds()[pick(8)];
        int due = oracle.sherd(kind);
        check("sherd(" + kind + ")", table.sherd(kind), due);
        if (due < 0) {
            return;
        }
        switch (pick(run % 5 == 0 ? 8 : 6)) {
            case 0: regular(due); break;
            case 7: zigzag(due); break;
            case 1: closeUp(due, 1 + pick(5)); break;
            default: counterpart(due); break;
        }
        check("close(" + due + ")", table.close(due), oracle.close(due));
        if (kind == 3 || kind == 4) {
            for (int k = 0; k < oracle.size(due); k++) {
                paintStep(due, k, pick(3) == 0 ? 1 : 0);
            }
        }
        for (int k = 0; kind == 4 && k < oracle.size(due); k++) {
            markStep(due, k, pick(4) != 0);
        }
    }

    private void addStep(int sherd, int direction, int length) {
        String call = "step(" + sherd + ", " + direction + ", " + length + ")";
        check(call, table.step(sherd, direction, length), oracle.step(sherd, direction, length));
    }

    private void regular(int sherd) {
        int sides = new int[] {3, 4, 4, 6, 8, 12}[pick(6)];
        int length = 1 + pick(12);
        int first = pick(24);
        for (int k = 0; k < sides; k++) {
            addStep(sherd, (first + k * (24 / sides)) % 24, length);
        }
    }

    /** Twenty steps up and down, so that a row may cut them all. */
    private void zigzag(int sherd) {
        int first = pick(24);
        int length = 1 + pick(12);
        for (int k = 0; k < 20; k++) {
            int up = k < 10 ? 5 : 7;
            addStep(sherd, (first + (k % 2 == 0 ? up : 24 - up)) % 24, length);
        }
    }

    /** Random steps, then the steps that bring it back nearest to its beginning. */
    private void closeUp(int sherd, int free) {
        for (int k = 0; k < free; k++) {
            addStep(sherd, pick(24), 1 + pick(12));
        }
        for (int k = 0; k < 20; k++) {
            long[] end = oracle.pieces.get(sherd).place(oracle.size(sherd), 0);
            if (oracle.size(sherd) >= 3 && Math.max(Math.abs(end[0]), Math.abs(end[1])) <= pick(2001)) {
                return;
            }
            long best = Long.MAX_VALUE;
            int direction = 0;
            int length = 1;
            for (int d = 0; d < 24; d++) {
                for (int l = 1; l <= 12; l++) {
                    long x = end[0] + (long) l * Oracle.xOf(d);
                    long y = end[1] + (long) l * Oracle.yOf(d);
                    long far = Math.max(Math.abs(x), Math.abs(y));
                    if (far < best) {
                        best = far;
                        direction = d;
                        length = l;
                    }
                }
            }
            addStep(sherd, direction, length);
        }
    }

    /** A sherd with some steps of another one gone back, so that they fit (or nearly so). */
    private void counterpart(int sherd) {
        int other = sherd == 0 ? 0 : pick(sherd);
        if (sherd == 0 || oracle.size(other) == 0) {
            closeUp(sherd, 2 + pick(4));
            return;
        }
        int size = oracle.size(other);
        int from = pick(size);
        int count = 1 + pick(Math.min(size, 8));
        int turn = pick(24);
        for (int k = 0; k < count; k++) {
            Oracle.Step s = oracle.pieces.get(other).steps.get(Math.floorMod(from - k, size));
            int bent = pick(12) == 0 ? 1 : 0;
            int length = pick(15) == 0 ? Math.min(12, s.length + 1) : s.length;
            addStep(sherd, (s.direction + 12 + turn + bent) % 24, length);
        }
        closeUp(sherd, pick(3));
    }

    private int anySherd() {
        return pick(25) == 0 ? pick(16) - 2 : pick(Math.max(1, oracle.pieces.size()));
    }

    private int anyStep(int sherd) {
        int size = oracle.is(sherd) ? oracle.size(sherd) : 3;
        return size == 0 || pick(25) == 0 ? pick(size + 4) - 2 : pick(size);
    }

    private int anyTurn() {
        return pick(30) == 0 ? pick(30) - 3 : pick(24);
    }

    private void markStep(int s, int k, boolean on) {
        check("mark(" + s + ", " + k + ", " + on + ")", table.mark(s, k, on) ? 1 : 0, oracle.mark(s, k, on) ? 1 : 0);
    }

    private void paintStep(int s, int k, int colour) {
        String call = "paint(" + s + ", " + k + ", " + colour + ")";
        check(call, table.paint(s, k, colour) ? 1 : 0, oracle.paint(s, k, colour) ? 1 : 0);
    }

    private void callMark() {
        int s = anySherd();
        markStep(s, anyStep(s), pick(3) != 0);
    }

    private void callPaint() {
        int s = anySherd();
        paintStep(s, anyStep(s), pick(5) == 0 ? pick(14) - 2 : pick(2));
    }

    private void callThick() {
        int s = anySherd();
        int bits = pick(4) == 0 ? random.nextInt() : Float.floatToRawIntBits(pick(40) / 10f);
        if (pick(6) == 0) {
            bits = new int[] {0x80000000, 0x7f800000, 0xff800000, 0x7f800001, 0xffc00000, 1, 0x80000001,
                0x447a0000, 0x447a0001, 0x4479ffff, 0x00800000, 0x3dcccccd, 0x3dcccccc}[pick(13)];
        }
        check("thick(" + s + ", " + bits + ")", table.thick(s, bits) ? 1 : 0, oracle.thick(s, bits) ? 1 : 0);
    }

    private void callCircle() {
        int s = anySherd();
        int circle = pick(5) == 0 ? pick(210) - 4 : 20 + pick(2);
        String call = "circle(" + s + ", " + circle + ")";
        check(call, table.circle(s, circle) ? 1 : 0, oracle.circle(s, circle) ? 1 : 0);
    }

    private void callTell() {
        int what = pick(10) == 0 ? pick(8) - 2 : pick(4);
        int[] most = {20, 30, 9000, 40};
        int v = what >= 0 && what < 4 && pick(8) != 0 ? pick(most[what]) : pick(110000) - 5;
        check("tell(" + what + ", " + v + ")", table.tell(what, v) ? 1 : 0, oracle.tell(what, v) ? 1 : 0);
    }

    private void callFit() {
        int a = anySherd();
        int b = anySherd();
        int i = anyStep(a);
        int j = anyStep(b);
        int t = anyTurn();
        String call = "fit(" + a + ", " + i + ", " + b + ", " + j + ", " + t + ")";
        check(call, table.fit(a, i, b, j, t), oracle.fit(a, i, b, j, t));
    }

    private void callSpans() {
        int a = anySherd();
        int b = anySherd();
        check("spans(" + a + ", " + b + ")", table.spans(a, b), oracle.spans(a, b));
    }

    private void callJoin() {
        int a = anySherd();
        int b = anySherd();
        int i = anyStep(a);
        int j = anyStep(b);
        int t = anyTurn();
        if (oracle.bothClosed(a, b) && pick(10) != 0) {
            List<Oracle.Fit> all = oracle.spansOf(Math.min(a, b), Math.max(a, b));
            if (!all.isEmpty()) {
                Oracle.Fit f = all.get(pick(3) == 0 ? pick(all.size()) : 0);
                i = a < b ? f.i() : f.j();
                j = a < b ? f.j() : f.i();
                t = f.t();
            }
        }
        int due = oracle.join(a, i, b, j, t);
        seen[due >= 0 ? 0 : -due]++;
        check("join(" + a + ", " + i + ", " + b + ", " + j + ", " + t + ")", table.join(a, i, b, j, t), due);
    }

    private void callHand() {
        handOne(pick(6));
    }

    private void handOne(int n) {
        int a = anySherd();
        int b = anySherd();
        int i = anyStep(a);
        int j = anyStep(b);
        int due = oracle.hand(a, i, b, j, n);
        seen[7] += due >= 0 ? 1 : 0;
        check("hand(" + a + ", " + i + ", " + b + ", " + j + ", " + n + ")", table.hand(a, i, b, j, n), due);
    }

    private void callPart() {
        int q = pick(Math.max(3, oracle.joins() + 2)) - 1;
        check("part(" + q + ")", table.part(q), oracle.part(q));
    }

    private void callUndo() {
        int n = pick(4) == 0 ? pick(oracle.joins() + 3) - 1 : 1;
        check("undo(" + n + ")", table.undo(n), oracle.undo(n));
    }

    private void callOrder() {
        int due = oracle.order();
        seen[8] += due;
        check("order()", table.order(), due);
    }

    private void callStepOrClose() {
        int s = anySherd();
        if (pick(2) == 0) {
            addStep(s, anyTurn(), pick(16) - 1);
        } else {
            check("close(" + s + ")", table.close(s), oracle.close(s));
        }
    }

    private void callQueries() {
        int a = anySherd();
        int b = anySherd();
        int t = anyTurn();
        int what = pick(16) - 3;
        check("two(" + a + ", " + b + ")", table.two(a, b), oracle.two(a, b));
        check("apart(" + a + ")", table.apart(a), oracle.apart(a));
        check("area(" + a + ", " + t + ")", table.area(a, t), oracle.area(a, t));
        check("group(" + a + ", " + what + ")", table.group(a, what), oracle.group(a, what));
        check("joined(0, " + what + ")", table.joined(0, what), oracle.joined(0, what));
        check("look(" + a + ", " + what + ")", lookOr(a, what, true), lookOr(a, what, false));
        int k = anyStep(a);
        check("edge(" + a + ", " + k + ", " + what + ")", edgeOr(a, k, what, true), edgeOr(a, k, what, false));
    }

    private long lookOr(int s, int what, boolean ofTable) {
        try {
            return ofTable ? table.look(s, what) : oracle.look(s, what);
        } catch (IndexOutOfBoundsException e) {
            return Long.MAX_VALUE;
        } catch (NoSuchElementException e) {
            return Long.MIN_VALUE;
        }
    }

    private long edgeOr(int s, int k, int what, boolean ofTable) {
        try {
            return ofTable ? table.edge(s, k, what) : oracle.edge(s, k, what);
        } catch (IndexOutOfBoundsException e) {
            return Long.MAX_VALUE;
        } catch (NoSuchElementException e) {
            return Long.MIN_VALUE;
        }
    }
}
