/** Each sentence of 'Terms', 1. EDGES, and of 'What it is', that names a boundary case. */
public final class EdgesSentencesTest extends Bench {
    private static final int[] X = {
        1000, 966, 866, 707, 500, 259, 0, -259, -500, -707, -866, -966,
        -1000, -966, -866, -707, -500, -259, 0, 259, 500, 707, 866, 966};
    private static final int[] Y = {
        0, 259, 500, 707, 866, 966, 1000, 966, 866, 707, 500, 259,
        0, -259, -500, -707, -866, -966, -1000, -966, -866, -707, -500, -259};

    public static void main(String[] args) {
        Sentences.runAllOf(EdgesSentencesTest.class);
        end();
    }

    @Sentence(at = "What it is", says = "An object is used for at most 512 calls after it has been made")
    static void whatItIs_the512thCallStillAnswersRight() {
        SherdTable x = squares(2);
        int calls = 2 * 6;
        while (calls < 510) {
            due("hand, call " + calls, x.hand(0, 0, 1, 2, 1), 0);
            due("undo, call " + calls, x.undo(1), 0);
            calls += 2;
        }
        due("join, call 511", x.join(0, 0, 1, 2, 0), 0);
        due("look, call 512", look(x, 1, 8), -10000);
    }

    /** What later calls answer is free, but nothing is ever thrown that the document doesn't name. */
    @Sentence(at = "What it is", says = "what later calls answer is free")
    static void whatItIs_laterCallsDontThrow() {
        SherdTable x = squares(3);
        for (int k = 0; k < 3000; k++) {
            x.sherd(k % 6);
            x.join(k % 3, k % 4, (k + 1) % 3, k / 4 % 4, k % 24);
            x.undo(k % 2);
            x.order();
        }
        yes("groups() is not below 1", x.groups() >= 1);
    }

    @Sentence(at = "Terms 1", says = "DIRECTIONS are 0 .. 23")
    static void terms1_direction0And23AreTaken() {
        SherdTable x = new SherdTable();
        x.sherd(0);
        due("step(0, 0, 1)", x.step(0, 0, 1), 1);
        due("step(0, 23, 1)", x.step(0, 23, 1), 2);
        due("edge(0, 0, 0)", edge(x, 0, 0, 0), 0);
        due("edge(0, 1, 0)", edge(x, 0, 1, 0), 23);
    }

    @Sentence(at = "Terms 1", says = "DIRECTIONS are 0 .. 23")
    static void terms1_directionBelow0Or24IsNone() {
        SherdTable x = new SherdTable();
        x.sherd(0);
        for (int bad : new int[] {-1, 24, MIN, MAX}) {
            due("step(0, " + bad + ", 1)", x.step(0, bad, 1), -1);
        }
        due("look(0, 1)", look(x, 0, 1), 0);
    }

    /** The first step goes by X, Y and the second one back: the other sherd is laid at place 1. */
    private static SherdTable laidBehindAStep(int direction, int length) {
        SherdTable x = new SherdTable();
        int back = (direction + 12) % 24;
        closed(x, 0, direction, length, back, length, direction, 1);
        closed(x, 0, 0, 1, 12, 1, 0, 1);
        due("hand(0, 1, 1, 1, 1)", x.hand(0, 1, 1, 1, 1), 0);
        return x;
    }

    @Sentence(at = "Terms 1", says = "X from 0 on 1000 966 866 707 500 259 0 -259 -500 -707 -866 -966")
    static void terms1_xOfTheFirstTwelve() {
        for (int d = 0; d < 12; d++) {
            due("X(" + d + ")", look(laidBehindAStep(d, 1), 1, 7), X[d]);
        }
    }

    @Sentence(at = "Terms 1", says = "and the same with the other sign from 12 on")
    static void terms1_xFrom12On() {
        for (int d = 12; d < 24; d++) {
            due("X(" + d + ")", look(laidBehindAStep(d, 1), 1, 7), X[d]);
        }
    }

    @Sentence(at = "Terms 1", says = "Y(d) is X(d - 6)")
    static void terms1_yIsXOfSixLess() {
        for (int d = 6; d < 24; d++) {
            due("Y(" + d + ")", look(laidBehindAStep(d, 1), 1, 8), Y[d]);
        }
    }

    @Sentence(at = "Terms 1", says = "(DIRECTIONS always modulo 24)")
    static void terms1_yBelow6GoesRound() {
        for (int d = 0; d < 6; d++) {
            due("Y(" + d + ")", look(laidBehindAStep(d, 1), 1, 8), Y[d]);
        }
    }

    /** DIRECTION 23 turned by 23 is 22: the step goes by 866, -500 five times. */
    @Sentence(at = "Terms 1", says = "(DIRECTIONS always modulo 24)")
    static void terms1_aTurnedDirectionGoesRound() {
        SherdTable x = new SherdTable();
        closed(x, 0, 10, 1, 22, 1, 10, 1);
        closed(x, 0, 23, 5, 11, 5, 23, 1);
        due("hand(0, 0, 1, 0, 1)", x.hand(0, 0, 1, 0, 1), 0);
        where(x, 1, 23, -4330, 2500);
    }

    @Sentence(at = "Terms 1", says = "a LENGTH, 1 .. 12 units")
    static void terms1_length1And12AreTaken() {
        SherdTable x = new SherdTable();
        x.sherd(0);
        due("step(0, 0, 1)", x.step(0, 0, 1), 1);
        due("step(0, 0, 12)", x.step(0, 0, 12), 2);
        due("edge(0, 0, 1)", edge(x, 0, 0, 1), 1);
        due("edge(0, 1, 1)", edge(x, 0, 1, 1), 12);
    }

    @Sentence(at = "Terms 1", says = "a LENGTH, 1 .. 12 units")
    static void terms1_length0Or13IsNone() {
        SherdTable x = new SherdTable();
        x.sherd(0);
        for (int bad : new int[] {0, 13, -1, MIN, MAX}) {
            due("step(0, 0, " + bad + ")", x.step(0, 0, bad), -1);
        }
        due("look(0, 1)", look(x, 0, 1), 0);
    }

    @Sentence(at = "Terms 1", says = "it goes by LENGTH times these")
    static void terms1_twelveTimesAUnit() {
        for (int d = 0; d < 24; d++) {
            where(laidBehindAStep(d, 12), 1, (d + 12) % 24, 12 * X[d], 12 * Y[d]);
        }
    }

    @Sentence(at = "Terms 1", says = "SHERDS are numbered from 0 on as they come, 12 at most")
    static void terms1_twelveSherdsAndNoMore() {
        SherdTable x = new SherdTable();
        for (int k = 0; k < 12; k++) {
            due("sherd(0)", x.sherd(0), k);
        }
        due("sherd(0), the thirteenth", x.sherd(0), -1);
        due("groups()", x.groups(), 12);
    }

    @Sentence(at = "Terms 1", says = "KINDS: 0 Sherd; 1 Rim, 2 Base, 3 Painted, 5 Worn, each a Sherd; 4 Handle, a Painted one")
    static void terms1_kinds0To5() {
        SherdTable x = new SherdTable();
        for (int kind = 0; kind < 6; kind++) {
            due("sherd(" + kind + ")", x.sherd(kind), kind);
            due("look(" + kind + ", 0)", look(x, kind, 0), kind);
        }
        due("sherd(-1)", x.sherd(-1), -1);
        due("sherd(6)", x.sherd(6), -1);
    }

    @Sentence(at = "Terms 1", says = "4 Handle, a Painted one")
    static void terms1_aHandleShowsColours() {
        SherdTable x = new SherdTable();
        square(x, 4, 10);
        square(x, 3, 10);
        for (int k = 0; k < 4; k++) {
            x.mark(0, k, true);
        }
        yes("paint of a Handle", x.paint(0, 0, 5));
        due("edge(0, 0, 3)", edge(x, 0, 0, 3), 5);
        due("fit, unlike COLOURS", x.fit(0, 0, 1, 2, 0), 0);
        yes("paint of a Painted one", x.paint(1, 2, 5));
        due("fit, the same COLOUR", x.fit(0, 0, 1, 2, 0), 1);
    }

    @Sentence(at = "Terms 1", says = "An EDGE is a row of steps, 3 .. 20")
    static void terms1_twoStepsAreTooFewThreeAreNot() {
        SherdTable x = new SherdTable();
        open(x, 0, 0, 1, 12, 1);
        due("close with two steps", x.close(0), -1);
        due("look(0, 2)", look(x, 0, 2), 0);
        due("the third step", x.step(0, 0, 1), 3);
        due("close with three steps", x.close(0), 0);
    }

    @Sentence(at = "Terms 1", says = "An EDGE is a row of steps, 3 .. 20")
    static void terms1_twentyStepsAreTakenTwentyOneAreNot() {
        SherdTable x = new SherdTable();
        x.sherd(0);
        for (int k = 0; k < 20; k++) {
            due("step " + k, x.step(0, k % 2 * 12, 12), k + 1);
        }
        due("the twenty-first step", x.step(0, 6, 1), -1);
        due("look(0, 1)", look(x, 0, 1), 20);
        due("close with twenty steps", x.close(0), 0);
        due("edge(0, 19, 0)", edge(x, 0, 19, 0), 12);
    }

    /** As many sherds as there may be, each with as many steps: just step 19 of the last two is a BREAK. */
    @Sentence(at = "Terms 1", says = "An EDGE is a row of steps, 3 .. 20")
    static void terms1_twelveSherdsOfTwentySteps() {
        SherdTable x = new SherdTable();
        for (int s = 0; s < 12; s++) {
            x.sherd(4);
            for (int k = 0; k < 20; k++) {
                x.step(s, k / 5 * 6, 12);
            }
            due("close(" + s + ")", x.close(s), 0);
        }
        yes("mark(10, 19, true)", x.mark(10, 19, true));
        yes("mark(11, 19, true)", x.mark(11, 19, true));
        due("spans(10, 11)", x.spans(10, 11), 1);
        spanIs(x, 0, 19, 19, 12, 1, 12, 0);
        due("order()", x.order(), 1);
        where(x, 11, 12, 0, 12000);
        due("look(11, 9)", look(x, 11, 9), 1);
        due("edge(11, 19, 4)", edge(x, 11, 19, 4), 0);
        due("group(11, 2)", x.group(11, 2), 14400000000L);
        due("group(11, 3)", x.group(11, 3), -1);
        due("hand(0, 0, 1, 0, 20)", x.hand(0, 0, 1, 0, 20), 1);
        due("look(1, 9)", look(x, 1, 9), 20);
        due("apart(11)", x.apart(11), 0);
        due("groups()", x.groups(), 10);
    }

    @Sentence(at = "Terms 1", says = "it begins at 0, 0")
    static void terms1_anEdgeBeginsAt0() {
        SherdTable x = new SherdTable();
        open(x, 0, 3, 7);
        where(x, 0, 0, 0, 0);
        due("look(0, 5)", look(x, 0, 5), 0);
    }

    @Sentence(at = "Terms 1", says = "It is OPEN until it is closed")
    static void terms1_anOpenOneHasNoPart() {
        SherdTable x = squares(1);
        open(x, 0, 0, 10, 6, 10, 12, 10, 18, 10);
        due("look(1, 2)", look(x, 1, 2), 0);
        due("fit(0, 0, 1, 2, 0)", x.fit(0, 0, 1, 2, 0), -1);
        due("spans(0, 1)", x.spans(0, 1), -1);
        due("join(0, 0, 1, 2, 0)", x.join(0, 0, 1, 2, 0), -1);
        due("close(1)", x.close(1), 0);
        due("look(1, 2)", look(x, 1, 2), 1);
        due("join(0, 0, 1, 2, 0)", x.join(0, 0, 1, 2, 0), 0);
    }

    @Sentence(at = "Terms 1", says = "its end may miss its beginning by GAP, 2000 thousandths, in X and in Y, at most")
    static void terms1_missingByGapInXAndInYIsClosed() {
        SherdTable x = new SherdTable();
        closed(x, 0, 0, 1, 0, 1, 6, 2);
        closed(x, 0, 12, 1, 12, 1, 18, 2);
        due("look(0, 2)", look(x, 0, 2), 1);
        due("look(1, 2)", look(x, 1, 2), 1);
    }

    /** 9000 - 5 * 707 - 4 * 866 is 2001; the other way it misses by 1535. */
    @Sentence(at = "Terms 1", says = "its end may miss its beginning by GAP, 2000 thousandths, in X and in Y, at most")
    static void terms1_missingByOneMoreThanGapStaysOpen() {
        SherdTable x = new SherdTable();
        for (int turn = 0; turn < 4; turn++) {
            int t = 6 * turn;
            open(x, 0, t, 9, (9 + t) % 24, 5, (14 + t) % 24, 4);
            due("close of an edge to " + t, x.close(turn), 2001);
            due("look(" + turn + ", 2)", look(x, turn, 2), 0);
        }
    }

    @Sentence(at = "Terms 1", says = "(the way back is no step)")
    static void terms1_theWayBackIsNoStep() {
        SherdTable x = new SherdTable();
        closed(x, 0, 0, 2, 6, 1, 12, 1);
        triangle(x, 0, 1);
        due("look(0, 1)", look(x, 0, 1), 3);
        due("edge(0, 3, 0)", edge(x, 0, 3, 0), OUTSIDE);
        due("fit(0, 3, 1, 0, 0)", x.fit(0, 3, 1, 0, 0), -1);
        due("hand(0, 3, 1, 0, 1)", x.hand(0, 3, 1, 0, 1), -1);
    }

    /** The end misses the beginning by 1000: the place behind the last step is the end. */
    @Sentence(at = "Terms 1", says = "Place k (0 .. the number of steps) of an EDGE, turned by t")
    static void terms1_thePlaceBehindTheLastStepIsTheEnd() {
        SherdTable x = new SherdTable();
        closed(x, 0, 0, 10, 6, 10, 12, 10, 18, 9);
        closed(x, 0, 0, 10, 6, 10, 12, 10, 18, 9);
        due("hand(0, 0, 1, 3, 1)", x.hand(0, 0, 1, 3, 1), 0);
        where(x, 1, 18, -1000, 0);
    }

    @Sentence(at = "Terms 1", says = "Place k (0 .. the number of steps) of an EDGE, turned by t")
    static void terms1_place0IsTheBeginning() {
        SherdTable x = squares(1);
        closed(x, 0, 6, 10, 12, 10, 18, 10, 0, 10);
        due("hand(0, 0, 1, 0, 1)", x.hand(0, 0, 1, 0, 1), 0);
        where(x, 1, 6, 10000, 0);
    }

    @Sentence(at = "Terms 1", says = "the sum, over its places in order, the first behind the last, of x y' - x' y")
    static void terms1_areaOfOneWhoseEndMisses() {
        SherdTable x = new SherdTable();
        closed(x, 0, 0, 2, 6, 1, 12, 1);
        due("area(0, 0)", x.area(0, 0), 3000000);
    }

    @Sentence(at = "Terms 1", says = "(twice the area, in millionths of a unit's square)")
    static void terms1_areaBeyondAnInt() {
        SherdTable x = new SherdTable();
        x.sherd(0);
        for (int k = 0; k < 20; k++) {
            x.step(0, k / 5 * 6, 12);
        }
        due("close(0)", x.close(0), 0);
        due("area(0, 0)", x.area(0, 0), 7200000000L);
    }

    @Sentence(at = "Terms 1", says = "without its sign")
    static void terms1_areaTheOtherWayRound() {
        SherdTable x = new SherdTable();
        backSquare(x, 0, 10);
        due("area(0, 0)", x.area(0, 0), 200000000);
    }

    @Sentence(at = "Terms 1", says = "without its sign")
    static void terms1_areaOfNothing() {
        SherdTable x = new SherdTable();
        closed(x, 0, 0, 5, 12, 4, 12, 1);
        due("area(0, 7)", x.area(0, 7), 0);
    }

    private static void breakIs(int kind, int unmarked, int marked) {
        SherdTable x = new SherdTable();
        square(x, kind, 10);
        due("edge(0, 0, 2), KIND " + kind, edge(x, 0, 0, 2), unmarked);
        x.mark(0, 0, true);
        due("edge(0, 0, 2), KIND " + kind + ", marked", edge(x, 0, 0, 2), marked);
        due("edge(0, 1, 2), KIND " + kind + ", the next one", edge(x, 0, 1, 2), unmarked);
        x.mark(0, 0, false);
        due("edge(0, 0, 2), KIND " + kind + ", no longer marked", edge(x, 0, 0, 2), unmarked);
    }

    @Sentence(at = "Terms 1", says = "of a Rim if it isn't marked")
    static void terms1_breaksOfARim() {
        breakIs(1, 1, 0);
    }

    @Sentence(at = "Terms 1", says = "of a Handle if it is marked")
    static void terms1_breaksOfAHandle() {
        breakIs(4, 0, 1);
    }

    @Sentence(at = "Terms 1", says = "of the others always")
    static void terms1_breaksOfTheOthers() {
        breakIs(0, 1, 1);
        breakIs(2, 1, 1);
        breakIs(3, 1, 1);
        breakIs(5, 1, 1);
    }

    /** Behind the second pair 375 and 600 apart, and so behind the third. */
    @Sentence(at = "Terms 1", says = "600 thousandths of others")
    static void terms1_600ApartIsWithinTheSlackOfOthers() {
        for (int kind = 0; kind < 5; kind++) {
            SherdTable x = new SherdTable();
            closed(x, kind, 0, 1, 4, 1, 14, 1);
            closed(x, kind, 17, 1, 14, 1, 2, 1);
            for (int k = 0; kind == 4 && k < 3; k++) {
                x.mark(0, k, true);
                x.mark(1, k, true);
            }
            due("fit, KIND " + kind, x.fit(0, 0, 1, 1, 0), 3);
            due("fitted(1)", x.fitted(1), 600);
        }
    }

    /** Behind the second pair 78 and 277 apart, behind the third 601. */
    private static SherdTable apartBy601(int kind) {
        SherdTable x = new SherdTable();
        closed(x, kind, 0, 2, 9, 1, 4, 4, 16, 5);
        closed(x, 0, 15, 4, 22, 1, 13, 2, 3, 5);
        for (int k = 0; kind == 4 && k < 4; k++) {
            x.mark(0, k, true);
        }
        return x;
    }

    @Sentence(at = "Terms 1", says = "600 thousandths of others")
    static void terms1_601ApartIsBeyondTheSlackOfOthers() {
        for (int kind = 0; kind < 5; kind++) {
            due("fit, KIND " + kind, apartBy601(kind).fit(0, 0, 1, 2, 0), 2);
        }
    }

    @Sentence(at = "Terms 1", says = "SLACK is 1500 of a Worn")
    static void terms1_601ApartIsWithinTheSlackOfAWorn() {
        SherdTable x = apartBy601(5);
        due("fit, KIND 5", x.fit(0, 0, 1, 2, 0), 4);
    }

    @Sentence(at = "Terms 1", says = "SLACK is 1500 of a Worn")
    static void terms1_1500ApartIsWithinTheSlackOfAWorn() {
        SherdTable x = new SherdTable();
        triangle(x, 5, 1);
        triangle(x, 5, 1);
        due("fit(0, 0, 1, 0, 20)", x.fit(0, 0, 1, 0, 20), 3);
        due("fitted(1)", x.fitted(1), 1500);
    }

    /** Behind the second pair 988 and 1501 apart. */
    @Sentence(at = "Terms 1", says = "SLACK is 1500 of a Worn")
    static void terms1_1501ApartIsBeyondTheSlackOfAWorn() {
        SherdTable x = new SherdTable();
        closed(x, 5, 0, 1, 2, 6, 14, 6);
        closed(x, 5, 15, 6, 13, 1, 3, 6);
        due("fit(0, 0, 1, 1, 0)", x.fit(0, 0, 1, 1, 0), 1);
        due("fitted(1)", x.fitted(1), 259);
    }

    @Sentence(at = "Terms 1", says = "each step has a COLOUR, 0 .. 9 (0 at first)")
    static void terms1_colour0And9AreTaken() {
        SherdTable x = new SherdTable();
        square(x, 3, 10);
        due("edge(0, 0, 3) at first", edge(x, 0, 0, 3), 0);
        yes("paint(0, 0, 9)", x.paint(0, 0, 9));
        due("edge(0, 0, 3)", edge(x, 0, 0, 3), 9);
        yes("paint(0, 0, 0)", x.paint(0, 0, 0));
        due("edge(0, 0, 3)", edge(x, 0, 0, 3), 0);
    }

    @Sentence(at = "Terms 1", says = "each step has a COLOUR, 0 .. 9 (0 at first)")
    static void terms1_colourBelow0Or10IsRefused() {
        SherdTable x = new SherdTable();
        square(x, 3, 10);
        yes("paint(0, 0, 4)", x.paint(0, 0, 4));
        for (int bad : new int[] {-1, 10, MIN, MAX}) {
            no("paint(0, 0, " + bad + ")", x.paint(0, 0, bad));
        }
        due("edge(0, 0, 3)", edge(x, 0, 0, 3), 4);
    }

    private static void thickIs(int bits, int tenths) {
        SherdTable x = new SherdTable();
        x.sherd(0);
        yes("thick(0, " + bits + ")", x.thick(0, bits));
        due("look(0, 3) of " + Float.intBitsToFloat(bits), look(x, 0, 3), tenths);
    }

    private static void thickIsRefused(int bits) {
        SherdTable x = new SherdTable();
        x.sherd(0);
        yes("thick by 5", x.thick(0, bits(5)));
        no("thick(0, " + bits + ")", x.thick(0, bits));
        due("look(0, 3) stays", look(x, 0, 3), 50);
    }

    @Sentence(at = "Terms 1", says = "THICKNESS is told as a float's bits, 0 .. 1000")
    static void terms1_thickness0And1000AreTaken() {
        thickIs(0, 0);
        thickIs(bits(1000), 10000);
        thickIs(bits(Math.nextDown(1000f)), 9999);
        thickIs(1, 0);
        thickIs(bits(Float.MIN_NORMAL), 0);
    }

    /** Minus nought is not below 0. */
    @Sentence(at = "Terms 1", says = "THICKNESS is told as a float's bits, 0 .. 1000")
    static void terms1_thicknessMinusNoughtIs0() {
        thickIs(MIN, 0);
    }

    @Sentence(at = "Terms 1", says = "(else refused;")
    static void terms1_thicknessBelow0IsRefused() {
        thickIsRefused(MIN + 1);
        thickIsRefused(bits(-0.1));
        thickIsRefused(bits(-1));
        thickIsRefused(bits(Float.NEGATIVE_INFINITY));
    }

    @Sentence(at = "Terms 1", says = "(else refused;")
    static void terms1_thicknessAbove1000IsRefused() {
        thickIsRefused(bits(Math.nextUp(1000f)));
        thickIsRefused(bits(Float.MAX_VALUE));
        thickIsRefused(bits(Float.POSITIVE_INFINITY));
    }

    @Sentence(at = "Terms 1", says = "no number: not measured, as at first")
    static void terms1_thicknessByNoNumberIsNotMeasured() {
        SherdTable x = new SherdTable();
        x.sherd(0);
        due("look(0, 3) at first", look(x, 0, 3), -1);
        for (int noNumber : new int[] {NO_NUMBER, 0xffc00000, 0x7f800001, 0xff800001, -1, MAX}) {
            yes("thick by 5", x.thick(0, bits(5)));
            yes("thick by no number", x.thick(0, noNumber));
            due("look(0, 3)", look(x, 0, 3), -1);
        }
    }

    /** The float next to 0.7 is a little below it, that next to 0.1 a little above. */
    @Sentence(at = "Terms 1", says = "10 times that (as a double) cut to a whole number of tenths")
    static void terms1_thicknessIsCutToTenths() {
        thickIs(bits(0.7), 6);
        thickIs(bits(0.1), 1);
        thickIs(bits(Math.nextDown(0.1f)), 0);
        thickIs(bits(2.3), 22);
        thickIs(bits(0.99), 9);
        thickIs(bits(Math.nextDown(1f)), 9);
        thickIs(bits(1), 10);
    }

    @Sentence(at = "Terms 1", says = "10 times that (as a double) cut to a whole number of tenths")
    static void terms1_thicknessOfEveryTenth() {
        SherdTable x = new SherdTable();
        for (int k = 0; k <= 10000; k++) {
            if (k % 200 == 0) {
                x = new SherdTable();
                x.sherd(0);
            }
            float value = k / 10f;
            yes("thick by " + value, x.thick(0, bits(value)));
            due("look(0, 3) of " + value, look(x, 0, 3), (int) (10 * (double) value));
        }
    }

    @Sentence(at = "Terms 1", says = "A Rim may have a CIRCLE, 1 .. 200 (none at first)")
    static void terms1_circle1And200AreTaken() {
        SherdTable x = new SherdTable();
        x.sherd(1);
        due("look(0, 4) at first", look(x, 0, 4), -1);
        yes("circle(0, 1)", x.circle(0, 1));
        due("look(0, 4)", look(x, 0, 4), 1);
        yes("circle(0, 200)", x.circle(0, 200));
        due("look(0, 4)", look(x, 0, 4), 200);
    }

    @Sentence(at = "Terms 1", says = "A Rim may have a CIRCLE, 1 .. 200 (none at first)")
    static void terms1_circle0Or201IsRefused() {
        SherdTable x = new SherdTable();
        x.sherd(1);
        for (int bad : new int[] {0, 201, -1, MIN, MAX}) {
            no("circle(0, " + bad + ")", x.circle(0, bad));
        }
        due("look(0, 4)", look(x, 0, 4), -1);
    }
}
