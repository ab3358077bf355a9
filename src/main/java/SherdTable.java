import java.util.Arrays;
import java.util.NoSuchElementException;

/** A table on which sherds of broken pots lie. ../shared/DOC.md says what each call promises. */
public final class SherdTable {
    public static final int NONE = -1;

    private static final int MOST_SHERDS = 12;
    private static final int FEWEST_STEPS = 3;
    private static final int MOST_STEPS = 20;
    private static final int MOST_LENGTH = 12;
    private static final int MOST_JOINS = 40;
    private static final int MOST_COLOUR = 9;
    private static final int MOST_CIRCLE = 200;
    private static final int SPANS_KEPT = 50;
    /** A SURE span has a step of its own on either side, so there are no more than this. */
    private static final int MOST_SURE = 120;
    private static final int ALL_STEPS = 240;

    private static final int TURNS = 24;
    private static final int HALF_TURN = 12;
    /** Y(d) is X(d - 6); 18 more is the same and never below 0. */
    private static final int FROM_X_TO_Y = 18;
    private static final int GAP = 2000;
    private static final int GRID = 1000;
    private static final int HALF_GRID = 500;
    private static final int TURNED_OTHERWISE = 1000000000;
    private static final long CIRCLE_AREA = 6283185L;

    private static final int NO_SUCH = -1;
    private static final int NO_SPAN = -2;
    private static final int NO_ONE_POT = -3;
    private static final int TOO_MANY = -4;
    private static final int NOT_ROUND = -5;
    private static final int LIES_ON = -6;

    private static final int CANNOT_BE = -2;
    private static final int FLOAT_SIZE_BITS = 0x7fffffff;
    private static final int FLOAT_INFINITY = 0x7f800000;
    private static final int FLOAT_THOUSAND = 0x447a0000;
    private static final int FLOAT_FRACTION_BITS = 0x007fffff;
    private static final int FLOAT_HIDDEN_BIT = 0x00800000;
    private static final int FLOAT_FRACTION_LENGTH = 23;
    private static final int FLOAT_WHOLE_EXPONENT = 150;

    private static final int[] X = {
        1000, 966, 866, 707, 500, 259, 0, -259, -500, -707, -866, -966,
        -1000, -966, -866, -707, -500, -259, 0, 259, 500, 707, 866, 966};

    private static final Kind[] KINDS = Kind.values();

    private final Sherd[] sherds = new Sherd[MOST_SHERDS];
    private final Outline[] outlines = new Outline[MOST_SHERDS];
    private final int[] parts = new int[MOST_SHERDS];
    private final JoinBook joins = new JoinBook();
    private final Layout layout = new Layout();
    private final Claims claims = new Claims();
    private final SpanList found = new SpanList(SPANS_KEPT);
    private final SpanList sure = new SpanList(MOST_SURE);
    private final Span tried = new Span();
    private final Span oneBack = new Span();
    private final Pairs handed = new Pairs();
    private final int[] liesOn = {NONE, NONE, NONE};

    private int sherdCount = 0;
    private int leastLong = 6;
    private int mostThickApart = 10;
    private int mostRound = 3000;
    private int mostShare = 3;
    private int fittedLong = NONE;
    private int fittedMiss = NONE;
    private int latestRound = NONE;

    public SherdTable() {
        for (int k = 0; k < MOST_SHERDS; k++) {
            sherds[k] = new Sherd(k);
            outlines[k] = new Outline();
        }
    }

    public int sherd(int kind) {
        if (kind < 0 || kind >= KINDS.length || sherdCount >= MOST_SHERDS) {
            return NONE;
        }
        int number = sherdCount;
        sherds[number].kind = KINDS[kind];
        sherdCount = number + 1;
        layout.layAll(sherds, sherdCount, joins);
        return number;
    }

    public int step(int sherd, int direction, int length) {
        if (!hasSherd(sherd) || !isTurn(direction) || length < 1 || length > MOST_LENGTH) {
            return NONE;
        }
        Sherd one = sherds[sherd];
        if (one.closed || one.steps >= MOST_STEPS) {
            return NONE;
        }
        one.addStep(direction, length);
        return one.steps;
    }

    public int close(int sherd) {
        if (!hasSherd(sherd)) {
            return NONE;
        }
        Sherd one = sherds[sherd];
        if (one.closed || one.steps < FEWEST_STEPS) {
            return NONE;
        }
        int miss = greater(one.placeX(one.steps, 0), one.placeY(one.steps, 0));
        if (miss > GAP) {
            return miss;
        }
        one.closed = true;
        return 0;
    }

    public boolean mark(int sherd, int step, boolean on) {
        if (!canChange(sherd, step) || !sherds[sherd].kind.takesMarks()) {
            return false;
        }
        sherds[sherd].setMark(step, on);
        return true;
    }

    public boolean paint(int sherd, int step, int colour) {
        if (!canChange(sherd, step) || !sherds[sherd].kind.shows) {
            return false;
        }
        if (colour < 0 || colour > MOST_COLOUR) {
            return false;
        }
        sherds[sherd].colours[step] = colour;
        return true;
    }

    public boolean thick(int sherd, int bits) {
        if (!hasSherd(sherd) || !isAlone(sherd)) {
            return false;
        }
        int tenths = tenthsOf(bits);
        if (tenths == CANNOT_BE) {
            return false;
        }
        sherds[sherd].tenths = tenths;
        return true;
    }

    public boolean circle(int sherd, int circle) {
        if (!hasSherd(sherd) || sherds[sherd].kind != Kind.RIM || !isAlone(sherd)) {
            return false;
        }
        if (circle < 1 || circle > MOST_CIRCLE) {
            return false;
        }
        sherds[sherd].circle = circle;
        return true;
    }

    public boolean tell(int what, int v) {
        switch (what) {
            case 0:
                if (v < 1 || v > 100) {
                    return false;
                }
                leastLong = v;
                return true;
            case 1:
                if (v < 0 || v > 10000) {
                    return false;
                }
                mostThickApart = v;
                return true;
            case 2:
                if (v < 0 || v > 100000) {
                    return false;
                }
                mostRound = v;
                return true;
            case 3:
                if (v < 0 || v > 1000) {
                    return false;
                }
                mostShare = v;
                return true;
            default:
                return false;
        }
    }

    public int look(int sherd, int what) throws IndexOutOfBoundsException, NoSuchElementException {
        if (!hasSherd(sherd)) {
            throw new IndexOutOfBoundsException("no such sherd");
        }
        Sherd one = sherds[sherd];
        switch (what) {
            case 0: return one.kind.number;
            case 1: return one.steps;
            case 2: return one.closed ? 1 : 0;
            case 3: return one.tenths;
            case 4: return one.circle;
            case 5: return layout.roots[sherd];
            case 6: return layout.turns[sherd];
            case 7: return layout.xs[sherd];
            case 8: return layout.ys[sherd];
            case 9: return one.stepsInJoins();
            default: throw new NoSuchElementException("no such what");
        }
    }

    public int edge(int sherd, int step, int what) throws IndexOutOfBoundsException, NoSuchElementException {
        if (!hasStep(sherd, step)) {
            throw new IndexOutOfBoundsException("no such sherd or step");
        }
        Sherd one = sherds[sherd];
        switch (what) {
            case 0: return one.directions[step];
            case 1: return one.lengths[step];
            case 2: return one.breaks[step] ? 1 : 0;
            case 3: return one.colours[step];
            case 4: return one.joinOf[step];
            default: throw new NoSuchElementException("no such what");
        }
    }

    public long area(int sherd, int t) {
        if (!hasSherd(sherd) || !isTurn(t) || !sherds[sherd].closed) {
            return NONE;
        }
        return sherds[sherd].twiceItsArea(t);
    }

    public int fit(int a, int i, int b, int j, int t) {
        if (!canMeet(a, i, b, j) || !isTurn(t)) {
            return NONE;
        }
        measure(a, i, b, j, t);
        fittedLong = tried.longness;
        fittedMiss = tried.miss;
        return tried.n;
    }

    public int fitted(int what) {
        switch (what) {
            case 0: return fittedLong;
            case 1: return fittedMiss;
            default: return NONE;
        }
    }

    public int spans(int a, int b) {
        if (!isClosed(a) || !isClosed(b) || a == b) {
            return NONE;
        }
        found.clear();
        return walkSpans(sherds[Math.min(a, b)], sherds[Math.max(a, b)], found);
    }

    public int span(int k, int what) {
        if (k < 0 || k >= found.size) {
            return NONE;
        }
        Span one = found.kept[k];
        switch (what) {
            case 0: return one.i;
            case 1: return one.j;
            case 2: return one.t;
            case 3: return one.n;
            case 4: return one.longness;
            case 5: return one.miss;
            default: return NONE;
        }
    }

    public int two(int a, int b) {
        if (!hasSherd(a) || !hasSherd(b) || a == b) {
            return NONE;
        }
        return whyNoOnePot(sherds[a], sherds[b]);
    }

    public int apart(int sherd) {
        if (!hasSherd(sherd)) {
            return NONE;
        }
        for (int k = 0; k <= sherd; k++) {
            parts[k] = firstPartFor(k);
        }
        return parts[sherd];
    }

    public int join(int a, int i, int b, int j, int t) {
        if (!canMeet(a, i, b, j) || !isTurn(t)) {
            return NO_SUCH;
        }
        measure(a, i, b, j, t);
        if (!isSpan(tried)) {
            return NO_SPAN;
        }
        return tryToJoin(tried);
    }

    public int hand(int a, int i, int b, int j, int n) {
        if (!canMeet(a, i, b, j)) {
            return NO_SUCH;
        }
        if (n < 1 || n > Math.min(sherds[a].steps, sherds[b].steps)) {
            return NO_SPAN;
        }
        if (a < b) {
            handed.putFacing(sherds[a], i, sherds[b], j, n);
        } else {
            handed.putFacing(sherds[b], j, sherds[a], i, n);
        }
        if (isAnyStepJoined(handed)) {
            return NO_SPAN;
        }
        int number = joins.firstFree();
        if (number == NONE) {
            return TOO_MANY;
        }
        joins.write(number, handed, true, sherds);
        layout.layAll(sherds, sherdCount, joins);
        return number;
    }

    public int part(int join) {
        if (!joins.has(join)) {
            return NONE;
        }
        joins.strike(join, sherds);
        layout.layAll(sherds, sherdCount, joins);
        return layout.groupCount;
    }

    public int joined(int join, int what) {
        if (!joins.has(join)) {
            return NONE;
        }
        Join one = joins.slots[join];
        switch (what) {
            case 0: return one.a;
            case 1: return one.i;
            case 2: return one.b;
            case 3: return one.j;
            case 4: return one.t;
            case 5: return one.n;
            case 6: return one.byHand ? 1 : 0;
            case 7: return layout.missOf(one, sherds);
            default: return NONE;
        }
    }

    public int round() {
        return latestRound;
    }

    public int lies(int what) {
        if (what < 0 || what >= liesOn.length) {
            return NONE;
        }
        return liesOn[what];
    }

    public int order() {
        int made = 0;
        while (made < MOST_JOINS && joins.firstFree() != NONE) {
            claimAllSteps();
            gatherSure();
            if (!joinFirstSure()) {
                break;
            }
            made++;
        }
        return made;
    }

    public int groups() {
        return layout.groupCount;
    }

    public long group(int sherd, int what) {
        if (!hasSherd(sherd)) {
            return NONE;
        }
        int root = layout.roots[sherd];
        switch (what) {
            case 0: return sherdsIn(root);
            case 1: return joinsIn(root);
            case 2: return areaOf(root);
            case 3: return missingOf(root);
            default: return NONE;
        }
    }

    public int undo(int n) {
        if (n < 0 || n > joins.count) {
            return NONE;
        }
        for (int k = 0; k < n; k++) {
            joins.strike(joins.latest(), sherds);
        }
        layout.layAll(sherds, sherdCount, joins);
        return joins.count;
    }

    private boolean hasSherd(int sherd) {
        return sherd >= 0 && sherd < sherdCount;
    }

    private boolean hasStep(int sherd, int step) {
        return hasSherd(sherd) && step >= 0 && step < sherds[sherd].steps;
    }

    private boolean isClosed(int sherd) {
        return hasSherd(sherd) && sherds[sherd].closed;
    }

    private boolean canChange(int sherd, int step) {
        return hasStep(sherd, step) && sherds[sherd].joinOf[step] == NONE;
    }

    private boolean canMeet(int a, int i, int b, int j) {
        return isClosed(a) && isClosed(b) && a != b && hasStep(a, i) && hasStep(b, j);
    }

    private boolean isAlone(int sherd) {
        return sherdsIn(layout.roots[sherd]) == 1;
    }

    private static boolean isTurn(int t) {
        return t >= 0 && t < TURNS;
    }

    private static int greater(int x, int y) {
        return Math.max(Math.abs(x), Math.abs(y));
    }

    /**
     * Tenths by a float's bits: NONE for no number, CANNOT_BE for what is refused. Whole numbers
     * do, for ten times a float's 24 bits is exact in a double too.
     */
    private static int tenthsOf(int bits) {
        int size = bits & FLOAT_SIZE_BITS;
        if (size > FLOAT_INFINITY) {
            return NONE;
        }
        boolean belowNought = bits < 0 && size != 0;
        if (belowNought || size > FLOAT_THOUSAND) {
            return CANNOT_BE;
        }
        int shift = FLOAT_WHOLE_EXPONENT - (size >> FLOAT_FRACTION_LENGTH);
        if (shift > 30) {
            return 0;
        }
        return (((size & FLOAT_FRACTION_BITS) | FLOAT_HIDDEN_BIT) * 10) >> shift;
    }

    private void measure(int a, int i, int b, int j, int t) {
        if (a < b) {
            tried.measure(sherds[a], i, sherds[b], j, t);
        } else {
            tried.measure(sherds[b], j, sherds[a], i, t);
        }
    }

    private boolean isSpan(Span fits) {
        if (fits.longness < leastLong) {
            return false;
        }
        Sherd a = sherds[fits.a];
        Sherd b = sherds[fits.b];
        oneBack.measure(a, a.before(fits.i), b, b.behind(fits.j), fits.t);
        return oneBack.n <= fits.n;
    }

    private int walkSpans(Sherd a, Sherd b, SpanTaker taker) {
        int count = 0;
        for (int i = 0; i < a.steps; i++) {
            for (int j = 0; j < b.steps; j++) {
                if (a.canPair(i, b, j)) {
                    count += walkTurns(a, i, b, j, taker);
                }
            }
        }
        return count;
    }

    /** Most turns fail at the first pair: that is looked at ahead of the measuring, for speed alone. */
    private int walkTurns(Sherd a, int i, Sherd b, int j, SpanTaker taker) {
        int x = a.goesX(i, 0);
        int y = a.goesY(i, 0);
        int slack = a.slackWith(b);
        int count = 0;
        for (int t = 0; t < TURNS; t++) {
            int back = t + HALF_TURN;
            if (Math.abs(x - b.goesX(j, back)) > slack || Math.abs(y - b.goesY(j, back)) > slack) {
                continue;
            }
            tried.measure(a, i, b, j, t);
            if (isSpan(tried)) {
                taker.take(tried);
                count++;
            }
        }
        return count;
    }

    private int whyNoOnePot(Sherd a, Sherd b) {
        if (a.tenths != NONE && b.tenths != NONE && Math.abs(a.tenths - b.tenths) > mostThickApart) {
            return 1;
        }
        if (a.kind == Kind.BASE && b.kind == Kind.BASE) {
            return 2;
        }
        if (a.circle != NONE && b.circle != NONE && a.circle != b.circle) {
            return 3;
        }
        return 0;
    }

    private int firstPartFor(int sherd) {
        int part = 0;
        while (part < sherd && !isOfPart(sherd, part)) {
            part++;
        }
        return part;
    }

    private boolean isOfPart(int sherd, int part) {
        for (int k = 0; k < sherd; k++) {
            if (parts[k] == part && whyNoOnePot(sherds[k], sherds[sherd]) != 0) {
                return false;
            }
        }
        return true;
    }

    private boolean isAnyStepJoined(Pairs pairs) {
        for (int k = 0; k < pairs.n; k++) {
            if (sherds[pairs.a].joinOf[pairs.stepOfA(k)] != NONE || sherds[pairs.b].joinOf[pairs.stepOfB(k)] != NONE) {
                return true;
            }
        }
        return false;
    }

    /** Refusals 3 to 6 of a SPAN, or its number as a JOIN. */
    private int tryToJoin(Span wanted) {
        int rootA = layout.roots[wanted.a];
        int rootB = layout.roots[wanted.b];
        if (rootA != rootB && areOfNoOnePot(rootA, rootB)) {
            return NO_ONE_POT;
        }
        int number = joins.firstFree();
        if (number == NONE) {
            return TOO_MANY;
        }
        if (rootA == rootB && layout.missOf(wanted, sherds) > mostRound) {
            latestRound = layout.missOf(wanted, sherds);
            return NOT_ROUND;
        }
        // A JOIN that comes round may also change by what the others are laid: it is laid to be looked at.
        joins.write(number, wanted, false, sherds);
        layout.layAll(sherds, sherdCount, joins);
        if (anyLiesOnAnother(layout.roots[wanted.a])) {
            joins.strike(number, sherds);
            layout.layAll(sherds, sherdCount, joins);
            return LIES_ON;
        }
        return number;
    }

    private boolean areOfNoOnePot(int rootA, int rootB) {
        for (int k = 0; k < sherdCount; k++) {
            for (int m = 0; m < sherdCount; m++) {
                if (layout.roots[k] == rootA && layout.roots[m] == rootB
                        && whyNoOnePot(sherds[k], sherds[m]) != 0) {
                    return true;
                }
            }
        }
        return false;
    }

    private boolean anyLiesOnAnother(int root) {
        drawGroup(root);
        for (int low = 0; low < sherdCount; low++) {
            for (int high = low + 1; high < sherdCount; high++) {
                if (layout.roots[low] == root && layout.roots[high] == root) {
                    int points = outlines[low].pointsSharedWith(outlines[high]);
                    if (points > mostShare) {
                        liesOn[0] = low;
                        liesOn[1] = high;
                        liesOn[2] = points;
                        return true;
                    }
                }
            }
        }
        return false;
    }

    private void drawGroup(int root) {
        for (int k = 0; k < sherdCount; k++) {
            if (layout.roots[k] == root) {
                outlines[k].draw(sherds[k], layout.turns[k], layout.xs[k], layout.ys[k]);
            }
        }
    }

    private boolean joinFirstSure() {
        for (int k = 0; k < sure.size; k++) {
            if (tryToJoin(sure.kept[k]) >= 0) {
                return true;
            }
        }
        return false;
    }

    private void claimAllSteps() {
        claims.clear();
        for (int a = 0; a < sherdCount; a++) {
            for (int b = a + 1; b < sherdCount; b++) {
                if (sherds[a].closed && sherds[b].closed) {
                    walkSpans(sherds[a], sherds[b], claims);
                }
            }
        }
    }

    private void gatherSure() {
        sure.clear();
        for (int a = 0; a < sherdCount; a++) {
            for (int i = 0; i < sherds[a].steps; i++) {
                if (claims.isBegunBySole(a, i)) {
                    Sherd other = sherds[claims.otherOf(a, i)];
                    tried.measure(sherds[a], i, other, claims.stepOfOther(a, i), claims.turnOf(a, i));
                    if (claims.areAllOf(tried)) {
                        sure.take(tried);
                    }
                }
            }
        }
    }

    private int sherdsIn(int root) {
        int count = 0;
        for (int k = 0; k < sherdCount; k++) {
            if (layout.roots[k] == root) {
                count++;
            }
        }
        return count;
    }

    private int joinsIn(int root) {
        int count = 0;
        for (int k = 0; k < MOST_JOINS; k++) {
            if (joins.has(k) && layout.roots[joins.slots[k].a] == root) {
                count++;
            }
        }
        return count;
    }

    private long areaOf(int root) {
        long sum = 0;
        for (int k = 0; k < sherdCount; k++) {
            if (layout.roots[k] == root && sherds[k].closed) {
                sum += sherds[k].twiceItsArea(0);
            }
        }
        return sum;
    }

    private long missingOf(int root) {
        for (int k = 0; k < sherdCount; k++) {
            if (layout.roots[k] == root && sherds[k].circle != NONE) {
                long circle = sherds[k].circle;
                return Math.max(0L, CIRCLE_AREA * circle * circle - areaOf(root));
            }
        }
        return NONE;
    }

    private enum Kind {
        SHERD(0, 600, false, true, true),
        RIM(1, 600, false, true, false),
        BASE(2, 600, false, true, true),
        PAINTED(3, 600, true, true, true),
        HANDLE(4, 600, true, false, true),
        WORN(5, 1500, false, true, true);

        final int number;
        final int slack;
        final boolean shows;
        final boolean plainBreaks;
        final boolean markedBreaks;

        Kind(int number, int slack, boolean shows, boolean plainBreaks, boolean markedBreaks) {
            this.number = number;
            this.slack = slack;
            this.shows = shows;
            this.plainBreaks = plainBreaks;
            this.markedBreaks = markedBreaks;
        }

        boolean takesMarks() {
            return plainBreaks != markedBreaks;
        }
    }

    private static final class Sherd {
        final int number;
        final int[] directions = new int[MOST_STEPS];
        final int[] lengths = new int[MOST_STEPS];
        final int[] colours = new int[MOST_STEPS];
        final int[] joinOf = new int[MOST_STEPS];
        final boolean[] breaks = new boolean[MOST_STEPS];
        Kind kind = Kind.SHERD;
        int steps = 0;
        boolean closed = false;
        int tenths = NONE;
        int circle = NONE;

        Sherd(int number) {
            this.number = number;
            Arrays.fill(joinOf, NONE);
        }

        void addStep(int direction, int length) {
            if (steps < MOST_STEPS) {
                directions[steps] = direction;
                lengths[steps] = length;
                breaks[steps] = kind.plainBreaks;
                steps++;
            }
        }

        void setMark(int step, boolean on) {
            breaks[step] = on ? kind.markedBreaks : kind.plainBreaks;
        }

        int slackWith(Sherd other) {
            return Math.max(kind.slack, other.kind.slack);
        }

        boolean canPair(int step, Sherd other, int stepOfOther) {
            if (!breaks[step] || !other.breaks[stepOfOther]) {
                return false;
            }
            if (joinOf[step] != NONE || other.joinOf[stepOfOther] != NONE) {
                return false;
            }
            boolean bothShow = kind.shows && other.kind.shows;
            return !bothShow || colours[step] == other.colours[stepOfOther];
        }

        int behind(int step) {
            return step + 1 < steps ? step + 1 : 0;
        }

        int before(int step) {
            return step > 0 ? step - 1 : steps - 1;
        }

        int goesX(int step, int turn) {
            return lengths[step] * X[(directions[step] + turn) % TURNS];
        }

        int goesY(int step, int turn) {
            return lengths[step] * X[(directions[step] + turn + FROM_X_TO_Y) % TURNS];
        }

        int placeX(int place, int turn) {
            int x = 0;
            for (int k = 0; k < place && k < steps; k++) {
                x += goesX(k, turn);
            }
            return x;
        }

        int placeY(int place, int turn) {
            int y = 0;
            for (int k = 0; k < place && k < steps; k++) {
                y += goesY(k, turn);
            }
            return y;
        }

        /** The way back to the first place adds nothing, for that place is 0, 0. */
        long twiceItsArea(int turn) {
            long sum = 0;
            long x = 0;
            long y = 0;
            for (int k = 0; k < steps; k++) {
                long nextX = x + goesX(k, turn);
                long nextY = y + goesY(k, turn);
                sum += x * nextY - nextX * y;
                x = nextX;
                y = nextY;
            }
            return Math.abs(sum);
        }

        int stepsInJoins() {
            int count = 0;
            for (int k = 0; k < steps; k++) {
                if (joinOf[k] != NONE) {
                    count++;
                }
            }
            return count;
        }
    }

    /** n pairs of steps: from i of a on, from j of b back, b turned by t more than a; a is the lesser number. */
    private static class Pairs {
        int a = 0;
        int i = 0;
        int b = 0;
        int j = 0;
        int t = 0;
        int n = 0;
        int stepsOfA = 0;
        int stepsOfB = 0;

        final void put(Sherd lesser, int step, Sherd other, int stepOfOther, int turn) {
            a = lesser.number;
            i = step;
            b = other.number;
            j = stepOfOther;
            t = turn;
            stepsOfA = lesser.steps;
            stepsOfB = other.steps;
        }

        final void putFacing(Sherd lesser, int step, Sherd other, int stepOfOther, int pairs) {
            int turn = lesser.directions[step] - other.directions[stepOfOther] - HALF_TURN;
            put(lesser, step, other, stepOfOther, Math.floorMod(turn, TURNS));
            n = pairs;
        }

        final void copyPairs(Pairs from) {
            a = from.a;
            i = from.i;
            b = from.b;
            j = from.j;
            t = from.t;
            n = from.n;
            stepsOfA = from.stepsOfA;
            stepsOfB = from.stepsOfB;
        }

        final int stepOfA(int pair) {
            int step = i + pair;
            return step < stepsOfA ? step : step - stepsOfA;
        }

        final int stepOfB(int pair) {
            int step = j - pair;
            return step >= 0 ? step : step + stepsOfB;
        }
    }

    private static final class Span extends Pairs {
        int longness = 0;
        int miss = 0;

        void measure(Sherd lesser, int step, Sherd other, int stepOfOther, int turn) {
            put(lesser, step, other, stepOfOther, turn);
            int most = Math.min(stepsOfA, stepsOfB);
            int slack = lesser.slackWith(other);
            int back = turn + HALF_TURN;
            int longOfLesser = 0;
            int longOfOther = 0;
            int x = 0;
            int y = 0;
            n = 0;
            miss = 0;
            while (n < most) {
                int k = stepOfA(n);
                int m = stepOfB(n);
                if (!lesser.canPair(k, other, m)) {
                    break;
                }
                x += lesser.goesX(k, 0) - other.goesX(m, back);
                y += lesser.goesY(k, 0) - other.goesY(m, back);
                int farApart = greater(x, y);
                if (farApart > slack) {
                    break;
                }
                miss = Math.max(miss, farApart);
                longOfLesser += lesser.lengths[k];
                longOfOther += other.lengths[m];
                n++;
            }
            longness = Math.min(longOfLesser, longOfOther);
        }

        boolean goesAheadOf(Span other) {
            if (longness != other.longness) {
                return longness > other.longness;
            }
            if (miss != other.miss) {
                return miss < other.miss;
            }
            if (a != other.a) {
                return a < other.a;
            }
            if (b != other.b) {
                return b < other.b;
            }
            if (i != other.i) {
                return i < other.i;
            }
            return j != other.j ? j < other.j : t < other.t;
        }

        void copySpan(Span from) {
            copyPairs(from);
            longness = from.longness;
            miss = from.miss;
        }
    }

    private static final class Join extends Pairs {
        boolean byHand = false;
        /** When it was made; 0 while the number is free. */
        int stamp = 0;
    }

    private interface SpanTaker {
        void take(Span span);
    }

    /** The first spans in their order, as many as there is room for. */
    private static final class SpanList implements SpanTaker {
        final Span[] kept;
        int size = 0;

        SpanList(int room) {
            kept = new Span[room];
            for (int k = 0; k < room; k++) {
                kept[k] = new Span();
            }
        }

        void clear() {
            size = 0;
        }

        public void take(Span span) {
            int at = size;
            while (at > 0 && span.goesAheadOf(kept[at - 1])) {
                at--;
            }
            if (at >= kept.length) {
                return;
            }
            int last = Math.min(size, kept.length - 1);
            Span spare = kept[last];
            for (int k = last; k > at; k--) {
                kept[k] = kept[k - 1];
            }
            spare.copySpan(span);
            kept[at] = spare;
            size = last + 1;
        }
    }

    /**
     * For each step of all sherds the longest of the spans that have it, so that no list of all
     * spans need be kept: a span is SURE where it is alone the longest at each of its steps.
     */
    private static final class Claims implements SpanTaker {
        private final int[] longest = new int[ALL_STEPS];
        private final int[] asLong = new int[ALL_STEPS];
        /** The b, j, t of the longest span where it begins with this step as its i; else NONE. */
        private final int[] begun = new int[ALL_STEPS];

        void clear() {
            Arrays.fill(longest, 0);
            Arrays.fill(asLong, 0);
            Arrays.fill(begun, NONE);
        }

        public void take(Span span) {
            for (int pair = 0; pair < span.n; pair++) {
                claim(slotOf(span.a, span.stepOfA(pair)), span.longness, pair == 0 ? codeOf(span) : NONE);
                claim(slotOf(span.b, span.stepOfB(pair)), span.longness, NONE);
            }
        }

        private static int codeOf(Span span) {
            return slotOf(span.b, span.j) * TURNS + span.t;
        }

        private void claim(int slot, int longness, int code) {
            if (longness > longest[slot]) {
                longest[slot] = longness;
                asLong[slot] = 1;
                begun[slot] = code;
            } else if (longness == longest[slot]) {
                asLong[slot]++;
            }
        }

        boolean isBegunBySole(int sherd, int step) {
            int slot = slotOf(sherd, step);
            return asLong[slot] == 1 && begun[slot] != NONE;
        }

        int otherOf(int sherd, int step) {
            return begun[slotOf(sherd, step)] / TURNS / MOST_STEPS;
        }

        int stepOfOther(int sherd, int step) {
            return begun[slotOf(sherd, step)] / TURNS % MOST_STEPS;
        }

        int turnOf(int sherd, int step) {
            return begun[slotOf(sherd, step)] % TURNS;
        }

        boolean areAllOf(Span span) {
            for (int pair = 0; pair < span.n; pair++) {
                if (!isSole(slotOf(span.a, span.stepOfA(pair)), span.longness)
                        || !isSole(slotOf(span.b, span.stepOfB(pair)), span.longness)) {
                    return false;
                }
            }
            return true;
        }

        private boolean isSole(int slot, int longness) {
            return longest[slot] == longness && asLong[slot] == 1;
        }

        private static int slotOf(int sherd, int step) {
            return sherd * MOST_STEPS + step;
        }
    }

    private static final class JoinBook {
        final Join[] slots = new Join[MOST_JOINS];
        int count = 0;
        private int latestStamp = 0;

        JoinBook() {
            for (int k = 0; k < MOST_JOINS; k++) {
                slots[k] = new Join();
            }
        }

        boolean has(int number) {
            return number >= 0 && number < MOST_JOINS && slots[number].stamp != 0;
        }

        int firstFree() {
            for (int k = 0; k < MOST_JOINS; k++) {
                if (!has(k)) {
                    return k;
                }
            }
            return NONE;
        }

        int latest() {
            int latest = NONE;
            for (int k = 0; k < MOST_JOINS; k++) {
                if (has(k) && (latest == NONE || slots[k].stamp > slots[latest].stamp)) {
                    latest = k;
                }
            }
            return latest;
        }

        void write(int number, Pairs pairs, boolean byHand, Sherd[] sherds) {
            Join one = slots[number];
            one.copyPairs(pairs);
            one.byHand = byHand;
            latestStamp++;
            one.stamp = latestStamp;
            count++;
            setSteps(one, number, sherds);
        }

        void strike(int number, Sherd[] sherds) {
            if (has(number)) {
                slots[number].stamp = 0;
                count--;
                setSteps(slots[number], NONE, sherds);
            }
        }

        private static void setSteps(Pairs pairs, int number, Sherd[] sherds) {
            for (int k = 0; k < pairs.n; k++) {
                sherds[pairs.a].joinOf[pairs.stepOfA(k)] = number;
                sherds[pairs.b].joinOf[pairs.stepOfB(k)] = number;
            }
        }
    }

    /** Where each sherd lies in its GROUP. */
    private static final class Layout {
        final int[] roots = new int[MOST_SHERDS];
        final int[] turns = new int[MOST_SHERDS];
        final int[] xs = new int[MOST_SHERDS];
        final int[] ys = new int[MOST_SHERDS];
        private final int[] inOrder = new int[MOST_SHERDS];
        private int laid = 0;
        int groupCount = 0;

        void layAll(Sherd[] sherds, int sherdCount, JoinBook joins) {
            Arrays.fill(roots, NONE);
            groupCount = 0;
            laid = 0;
            int next = 0;
            for (int root = 0; root < sherdCount; root++) {
                if (roots[root] == NONE) {
                    lay(root, root, 0);
                    xs[root] = 0;
                    ys[root] = 0;
                    groupCount++;
                }
                while (next < laid && next < MOST_SHERDS) {
                    layNeighboursOf(inOrder[next], sherds, joins);
                    next++;
                }
            }
        }

        private void layNeighboursOf(int by, Sherd[] sherds, JoinBook joins) {
            for (int k = 0; k < MOST_JOINS; k++) {
                Join join = joins.slots[k];
                if (!joins.has(k)) {
                    continue;
                }
                if (join.a == by && roots[join.b] == NONE) {
                    lay(join.b, roots[by], turns[by] + join.t);
                    xs[join.b] = xs[by] + offsetX(join, sherds);
                    ys[join.b] = ys[by] + offsetY(join, sherds);
                } else if (join.b == by && roots[join.a] == NONE) {
                    lay(join.a, roots[by], turns[by] - join.t);
                    xs[join.a] = xs[by] - offsetX(join, sherds);
                    ys[join.a] = ys[by] - offsetY(join, sherds);
                }
            }
        }

        private void lay(int sherd, int root, int turn) {
            roots[sherd] = root;
            turns[sherd] = Math.floorMod(turn, TURNS);
            if (laid < MOST_SHERDS) {
                inOrder[laid] = sherd;
                laid++;
            }
        }

        /** How far b's beginning is from a's where the pairs come together, both turned as they are. */
        private int offsetX(Pairs pairs, Sherd[] sherds) {
            return sherds[pairs.a].placeX(pairs.i, turns[pairs.a])
                    - sherds[pairs.b].placeX(pairs.j + 1, turns[pairs.b]);
        }

        private int offsetY(Pairs pairs, Sherd[] sherds) {
            return sherds[pairs.a].placeY(pairs.i, turns[pairs.a])
                    - sherds[pairs.b].placeY(pairs.j + 1, turns[pairs.b]);
        }

        int missOf(Pairs pairs, Sherd[] sherds) {
            if ((turns[pairs.a] + pairs.t) % TURNS != turns[pairs.b]) {
                return TURNED_OTHERWISE;
            }
            int x = xs[pairs.a] + offsetX(pairs, sherds) - xs[pairs.b];
            int y = ys[pairs.a] + offsetY(pairs, sherds) - ys[pairs.b];
            return greater(x, y);
        }
    }

    /** A sherd's edge as it lies, cut by the rows of points. */
    private static final class Outline {
        private final int[] xs = new int[MOST_STEPS + 1];
        private final int[] ys = new int[MOST_STEPS + 1];
        private final int[] cuts = new int[MOST_STEPS + 1];
        private int places = 0;
        private int cutCount = 0;
        private int lowX = 0;
        private int highX = 0;
        private int lowY = 0;
        private int highY = 0;

        void draw(Sherd sherd, int turn, int x, int y) {
            xs[0] = x;
            ys[0] = y;
            lowX = x;
            highX = x;
            lowY = y;
            highY = y;
            places = 1;
            for (int k = 0; k < sherd.steps; k++) {
                xs[k + 1] = xs[k] + sherd.goesX(k, turn);
                ys[k + 1] = ys[k] + sherd.goesY(k, turn);
                lowX = Math.min(lowX, xs[k + 1]);
                highX = Math.max(highX, xs[k + 1]);
                lowY = Math.min(lowY, ys[k + 1]);
                highY = Math.max(highY, ys[k + 1]);
                places++;
            }
        }

        int pointsSharedWith(Outline other) {
            if (highX < other.lowX || other.highX < lowX) {
                return 0;
            }
            int first = Math.floorDiv(Math.max(lowY, other.lowY), GRID);
            int last = Math.floorDiv(Math.min(highY, other.highY), GRID);
            int points = 0;
            for (int row = first; row <= last; row++) {
                cutAt(row * GRID + HALF_GRID);
                other.cutAt(row * GRID + HALF_GRID);
                points += pointsOfRowSharedWith(other);
            }
            return points;
        }

        /** Points from an even cut on, up to the next one, have an odd number of ways beyond them. */
        private int pointsOfRowSharedWith(Outline other) {
            int points = 0;
            for (int k = 0; k + 1 < cutCount; k += 2) {
                for (int m = 0; m + 1 < other.cutCount; m += 2) {
                    int from = Math.max(cuts[k], other.cuts[m]);
                    int to = Math.min(cuts[k + 1], other.cuts[m + 1]);
                    points += Math.max(0, to - from);
                }
            }
            return points;
        }

        private void cutAt(int y) {
            cutCount = 0;
            for (int k = 0; k < places; k++) {
                int next = k + 1 < places ? k + 1 : 0;
                if (ys[k] <= y && y < ys[next]) {
                    keepCut(cutOf(k, next, y));
                } else if (ys[next] <= y && y < ys[k]) {
                    keepCut(cutOf(next, k, y));
                }
            }
        }

        /**
         * The number of the first point of the row (the one at 500 has 0) that is not ahead of the
         * crossing of the way from low up to high: the crossing less 500, in thousands, rounded up.
         */
        private int cutOf(int low, int high, int y) {
            long rise = (long) ys[high] - ys[low];
            if (rise <= 0) {
                return 0;
            }
            long beyondFirst = (xs[low] - HALF_GRID) * rise + ((long) y - ys[low]) * (xs[high] - xs[low]);
            return (int) -Math.floorDiv(-beyondFirst, rise * GRID);
        }

        private void keepCut(int cut) {
            if (cutCount >= cuts.length) {
                return;
            }
            int at = cutCount;
            while (at > 0 && cuts[at - 1] > cut) {
                cuts[at] = cuts[at - 1];
                at--;
            }
            cuts[at] = cut;
            cutCount++;
        }
    }
}
