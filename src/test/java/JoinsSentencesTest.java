/** Each sentence of 'Terms', 3. JOINS, that names a boundary case. */
public final class JoinsSentencesTest extends Bench {
    public static void main(String[] args) {
        Sentences.runAllOf(JoinsSentencesTest.class);
        end();
    }

    @Sentence(at = "Terms 3", says = "JOINS, at most 40")
    static void terms3_fortyJoinsAndNoMore() {
        SherdTable x = joinedByHand(40);
        due("hand, the forty-first", x.hand(6, 4, 7, 4, 1), -4);
        square(x, 0, 10);
        square(x, 0, 10);
        due("join, the forty-first", x.join(8, 0, 9, 2, 0), -4);
        due("undo(40)", x.undo(40), 0);
    }

    @Sentence(at = "Terms 3", says = "numbered from 0 on (a number that is free is used again, the least)")
    static void terms3_theLeastFreeNumberIsUsedAgain() {
        SherdTable x = joinedByHand(4);
        due("part(2)", x.part(2), 7);
        due("part(1)", x.part(1), 7);
        due("hand, the least free number", x.hand(0, 8, 1, 8, 1), 1);
        due("hand, the next one", x.hand(0, 9, 1, 9, 1), 2);
        due("hand, none free below", x.hand(0, 10, 1, 10, 1), 4);
    }

    @Sentence(at = "Terms 3", says = "(a number that is free is used again, the least)")
    static void terms3_theLastNumberIsUsedAgain() {
        SherdTable x = joinedByHand(40);
        due("part(39)", x.part(39), 4);
        due("hand", x.hand(6, 7, 7, 7, 1), 39);
        due("joined(39, 1)", x.joined(39, 1), 7);
    }

    @Sentence(at = "Terms 3", says = "A GROUP are all sherds that JOINS hold together, also by others")
    static void terms3_aGroupByOthers() {
        SherdTable x = squares(5);
        due("join(1, 1, 3, 3, 0)", x.join(1, 1, 3, 3, 0), 0);
        due("join(3, 1, 4, 3, 0)", x.join(3, 1, 4, 3, 0), 1);
        due("join(0, 1, 2, 3, 0)", x.join(0, 1, 2, 3, 0), 2);
        long[] want = {0, 1, 0, 1, 1};
        for (int s = 0; s < 5; s++) {
            due("look(" + s + ", 5)", look(x, s, 5), want[s]);
        }
        due("groups()", x.groups(), 2);
        due("group(4, 0)", x.group(4, 0), 3);
    }

    @Sentence(at = "Terms 3", says = "its number is that of its least sherd, which is its ROOT: turned by 0, its beginning at 0, 0")
    static void terms3_theRootIsTheLeastSherd() {
        SherdTable x = squares(3);
        due("join(1, 0, 2, 0, 12)", x.join(1, 0, 2, 0, 12), 0);
        where(x, 1, 0, 0, 0);
        where(x, 2, 12, 10000, 0);
        due("join(0, 0, 2, 2, 0), the least comes last", x.join(0, 0, 2, 2, 0), 1);
        for (int s = 0; s < 3; s++) {
            due("look(" + s + ", 5)", look(x, s, 5), 0);
        }
        where(x, 0, 0, 0, 0);
        where(x, 2, 0, 0, -10000);
        where(x, 1, 12, 10000, -10000);
    }

    /** 0 has laid 2, then 1: 3 has a JOIN to either, and it is 2 that was laid first. */
    @Sentence(at = "Terms 3", says = "of sherds that are laid the one laid first")
    static void terms3_theOneLaidFirstLays() {
        SherdTable x = squares(4);
        due("hand(0, 0, 2, 2, 1)", x.hand(0, 0, 2, 2, 1), 0);
        due("hand(0, 1, 1, 3, 1)", x.hand(0, 1, 1, 3, 1), 1);
        due("hand(1, 1, 3, 3, 1)", x.hand(1, 1, 3, 3, 1), 2);
        where(x, 3, 0, 20000, 0);
        due("hand(2, 0, 3, 2, 1)", x.hand(2, 0, 3, 2, 1), 3);
        where(x, 3, 0, 0, -20000);
        due("joined(2, 7)", x.joined(2, 7), 20000);
        due("joined(3, 7)", x.joined(3, 7), 0);
    }

    /** 1 could lay 2 by a JOIN with a lesser number, but 0 was laid ahead of 1. */
    @Sentence(at = "Terms 3", says = "of sherds that are laid the one laid first")
    static void terms3_theRootLaysAllItCanFirst() {
        SherdTable x = squares(3);
        due("hand(1, 0, 2, 2, 1)", x.hand(1, 0, 2, 2, 1), 0);
        due("hand(0, 0, 1, 2, 1)", x.hand(0, 0, 1, 2, 1), 1);
        where(x, 2, 0, 0, -20000);
        due("hand(0, 1, 2, 3, 1)", x.hand(0, 1, 2, 3, 1), 2);
        where(x, 1, 0, 0, -10000);
        where(x, 2, 0, 10000, 0);
    }

    @Sentence(at = "Terms 3", says = "of its JOINS to one that isn't the one with the least number: that one is laid by it")
    static void terms3_theJoinWithTheLeastNumberLays() {
        SherdTable x = squares(3);
        due("hand(1, 0, 2, 0, 1)", x.hand(1, 0, 2, 0, 1), 0);
        due("hand(0, 0, 1, 2, 1)", x.hand(0, 0, 1, 2, 1), 1);
        due("hand(0, 1, 1, 3, 1)", x.hand(0, 1, 1, 3, 1), 2);
        where(x, 1, 0, 0, -10000);
        due("part(0)", x.part(0), 2);
        due("hand(0, 2, 1, 0, 1), number 0 again", x.hand(0, 2, 1, 0, 1), 0);
        where(x, 1, 0, 0, 10000);
        due("joined(1, 7)", x.joined(1, 7), 20000);
    }

    /** The order in which two are laid by one is that of the numbers of their JOINS, not of theirs. */
    @Sentence(at = "Terms 3", says = "of its JOINS to one that isn't the one with the least number: that one is laid by it")
    static void terms3_theyAreLaidInTheOrderOfJoins() {
        SherdTable x = squares(4);
        due("hand(0, 1, 1, 3, 1)", x.hand(0, 1, 1, 3, 1), 0);
        due("hand(0, 0, 2, 2, 1)", x.hand(0, 0, 2, 2, 1), 1);
        due("hand(1, 1, 3, 3, 1)", x.hand(1, 1, 3, 3, 1), 2);
        due("hand(2, 0, 3, 2, 1)", x.hand(2, 0, 3, 2, 1), 3);
        where(x, 3, 0, 20000, 0);
        due("part(0)", x.part(0), 1);
        due("hand(2, 3, 3, 1, 1), number 0 again", x.hand(2, 3, 3, 1, 1), 0);
        due("hand(0, 1, 1, 3, 1), a greater number now", x.hand(0, 1, 1, 3, 1), 4);
        where(x, 1, 0, 10000, 0);
        where(x, 3, 0, -10000, -10000);
    }

    /** 18 and 12 more is 6; the other one of them is laid by one that is turned. */
    private static SherdTable ringOfTurned() {
        SherdTable x = squares(4);
        due("join(0, 1, 1, 0, 18)", x.join(0, 1, 1, 0, 18), 0);
        due("join(0, 2, 2, 0, 0)", x.join(0, 2, 2, 0, 0), 1);
        due("join(1, 3, 3, 3, 12)", x.join(1, 3, 3, 3, 12), 2);
        return x;
    }

    @Sentence(at = "Terms 3", says = "By a JOIN b is turned by t more than a")
    static void terms3_turnsGoRoundPast23() {
        SherdTable x = ringOfTurned();
        where(x, 1, 18, 10000, 10000);
        where(x, 3, 6, 20000, 10000);
        due("joined(2, 7)", x.joined(2, 7), 0);
        due("join(2, 1, 3, 2, 6)", x.join(2, 1, 3, 2, 6), 3);
        due("joined(3, 7)", x.joined(3, 7), 0);
    }

    @Sentence(at = "Terms 3", says = "By a JOIN b is turned by t more than a")
    static void terms3_aIsTurnedByTLessThanB() {
        SherdTable x = squares(3);
        due("join(0, 1, 2, 2, 6)", x.join(0, 1, 2, 2, 6), 0);
        where(x, 2, 6, 20000, 0);
        due("join(1, 1, 2, 0, 18)", x.join(1, 1, 2, 0, 18), 1);
        where(x, 1, 12, 30000, 10000);
    }

    @Sentence(at = "Terms 3", says = "a's place i and b's place j + 1, turned as they are, come together")
    static void terms3_placesComeTogether() {
        SherdTable x = new SherdTable();
        closed(x, 0, 0, 7, 6, 3, 12, 5, 18, 4);
        closed(x, 0, 6, 2, 12, 8, 18, 3, 0, 9);
        due("hand(0, 2, 1, 3, 1)", x.hand(0, 2, 1, 3, 1), 0);
        where(x, 1, 0, 6000, 4000);
        due("undo(1)", x.undo(1), 0);
        due("hand(0, 2, 1, 2, 1)", x.hand(0, 2, 1, 2, 1), 0);
        where(x, 1, 6, 6000, 11000);
    }

    /**
     * By hand steps of unlike lengths: the next pair comes round and misses by what a's first three
     * steps go by less 1000.
     */
    private static SherdTable missing(int turn, int... firstThree) {
        SherdTable x = new SherdTable();
        int[] rest = {18, 8, 12, 4, 6, 7};
        int[] other = {6, 8, 12, 1, 18, 8};
        int[] all = new int[12];
        for (int k = 0; k < 6; k += 2) {
            all[k] = (firstThree[k] + turn) % 24;
            all[k + 1] = firstThree[k + 1];
            all[k + 6] = (rest[k] + turn) % 24;
            all[k + 7] = rest[k + 1];
            other[k] = (other[k] + turn) % 24;
        }
        closed(x, 0, all);
        closed(x, 0, other);
        due("hand(0, 0, 1, 1, 1)", x.hand(0, 0, 1, 1, 1), 0);
        yes("tell(3, 1000)", x.tell(3, 1000));
        return x;
    }

    @Sentence(at = "Terms 3", says = "ROUND is 3000 at first")
    static void terms3_missingBy3000IsNotTooMuchAtFirst() {
        for (int turn = 0; turn < 24; turn += 6) {
            SherdTable x = missing(turn, 0, 2, 0, 1, 0, 1);
            due("join(0, 3, 1, 0, 0), all turned by " + turn, x.join(0, 3, 1, 0, 0), 1);
            due("joined(1, 7)", x.joined(1, 7), 3000);
            due("round()", x.round(), -1);
        }
    }

    /** 11000 - 5 * 707 - 4 * 866 is 4001; by 1535 in the other. */
    @Sentence(at = "Terms 3", says = "ROUND is 3000 at first")
    static void terms3_missingBy3001IsTooMuchAtFirst() {
        for (int turn = 0; turn < 24; turn += 6) {
            SherdTable x = missing(turn, 0, 11, 9, 5, 14, 4);
            due("join(0, 3, 1, 0, 0), all turned by " + turn, x.join(0, 3, 1, 0, 0), -5);
            due("round()", x.round(), 3001);
        }
    }

    @Sentence(at = "Terms 3", says = "it MISSES by the greater difference, in X and in Y, of where it lays b (by a) and where b's beginning is")
    static void terms3_missesByTheGreaterDifference() {
        SherdTable x = squares(3);
        due("hand(0, 0, 1, 2, 1)", x.hand(0, 0, 1, 2, 1), 0);
        due("hand(0, 1, 1, 3, 1), off by 10000, 10000", x.hand(0, 1, 1, 3, 1), 1);
        due("hand(0, 2, 1, 0, 1), off by 0, 20000", x.hand(0, 2, 1, 0, 1), 2);
        due("joined(0, 7)", x.joined(0, 7), 0);
        due("joined(1, 7)", x.joined(1, 7), 10000);
        due("joined(2, 7)", x.joined(2, 7), 20000);
    }

    @Sentence(at = "Terms 3", says = "if b isn't turned so, by 1000000000")
    static void terms3_turnedOtherwiseMissesByABillion() {
        SherdTable x = squares(2);
        due("join(0, 0, 1, 2, 0)", x.join(0, 0, 1, 2, 0), 0);
        yes("tell(2, 100000), the greatest ROUND", x.tell(2, 100000));
        due("join(0, 1, 1, 0, 18)", x.join(0, 1, 1, 0, 18), -5);
        due("round()", x.round(), TURNED_OTHERWISE);
        due("hand(0, 1, 1, 0, 1)", x.hand(0, 1, 1, 0, 1), 1);
        due("joined(1, 7)", x.joined(1, 7), TURNED_OTHERWISE);
    }

    /** The sherd and one that goes the other way lie on one another: as many points as are IN it. */
    private static SherdTable layOnItsCounterpart(int... steps) {
        SherdTable x = new SherdTable();
        int[] back = new int[steps.length];
        for (int k = 0; k < steps.length; k += 2) {
            back[steps.length - 2 - k] = (steps[k] + 12) % 24;
            back[steps.length - 1 - k] = steps[k + 1];
        }
        closed(x, 0, steps);
        closed(x, 0, back);
        yes("tell(0, 1)", x.tell(0, 1));
        return x;
    }

    private static void pointsIn(int want, int... steps) {
        SherdTable x = layOnItsCounterpart(steps);
        yes("tell(3, 0)", x.tell(3, 0));
        int last = steps.length / 2 - 1;
        due("join, " + want + " points", x.join(0, 0, 1, last, 0), want > 0 ? -6 : 0);
        if (want > 0) {
            liesIs(x, 0, 1, want);
        }
    }

    @Sentence(at = "Terms 3", says = "more than SHARE (3 at first) of the points")
    static void terms3_threePointsAtFirstDontLieOn() {
        SherdTable x = layOnItsCounterpart(0, 3, 6, 1, 12, 3, 18, 1);
        due("join(0, 0, 1, 3, 0)", x.join(0, 0, 1, 3, 0), 0);
        due("lies(2)", x.lies(2), -1);
    }

    @Sentence(at = "Terms 3", says = "more than SHARE (3 at first) of the points")
    static void terms3_fourPointsAtFirstLieOn() {
        SherdTable x = layOnItsCounterpart(0, 4, 6, 1, 12, 4, 18, 1);
        due("join(0, 0, 1, 3, 0)", x.join(0, 0, 1, 3, 0), -6);
        liesIs(x, 0, 1, 4);
    }

    @Sentence(at = "Terms 3", says = "the points x + 500, y + 500, x and y multiples of 1000")
    static void terms3_pointsOnAllSidesOf0() {
        pointsIn(4, 0, 2, 6, 2, 12, 2, 18, 2);
        pointsIn(4, 6, 2, 12, 2, 18, 2, 0, 2);
        pointsIn(4, 12, 2, 18, 2, 0, 2, 6, 2);
        pointsIn(4, 18, 2, 0, 2, 6, 2, 12, 2);
        pointsIn(144, 18, 12, 12, 12, 6, 12, 0, 12);
    }

    /** Sides at 500 and at 2500: the points on the left one are IN, those on the right one are not. */
    @Sentence(at = "Terms 3", says = "the points x + 500, y + 500, x and y multiples of 1000")
    static void terms3_sidesThatGoThroughPoints() {
        pointsIn(4, 4, 1, 0, 2, 6, 2, 12, 2, 18, 2, 16, 1);
    }

    @Sentence(at = "Terms 3", says = "A point is IN if an odd number of the ways from place to place")
    static void terms3_pointsOfTwentySteps() {
        pointsIn(100, 0, 2, 0, 2, 0, 2, 0, 2, 0, 2, 6, 2, 6, 2, 6, 2, 6, 2, 6, 2,
                12, 2, 12, 2, 12, 2, 12, 2, 12, 2, 18, 2, 18, 2, 18, 2, 18, 2, 18, 2);
    }

    /** A row that all twenty steps cross. */
    @Sentence(at = "Terms 3", says = "A point is IN if an odd number of the ways from place to place")
    static void terms3_pointsOfARowThatIsCrossedTwentyTimes() {
        pointsIn(142, 4, 10, 18, 10, 6, 11, 18, 9, 5, 8, 20, 10, 6, 6, 20, 8, 5, 12, 20, 12,
                8, 4, 18, 12, 8, 12, 16, 11, 6, 10, 16, 6, 8, 8, 16, 11, 6, 8, 17, 4);
    }

    /** A sherd with a notch and one without: the points in the notch are IN just one of them. */
    @Sentence(at = "Terms 3", says = "A point is IN if an odd number of the ways from place to place")
    static void terms3_pointsInANotchAreNotIn() {
        int[] notched = {0, 5, 6, 3, 12, 2, 18, 2, 12, 1, 6, 2, 12, 2, 18, 3};
        int[] whole = {18, 3, 12, 5, 6, 3, 0, 5};
        int[] wholeToo = {0, 5, 6, 3, 12, 5, 18, 3};
        int[] notchedBack = {6, 3, 0, 2, 18, 2, 0, 1, 6, 2, 0, 2, 18, 3, 12, 5};
        notchedOnWhole(notched, whole, 7, 1);
        notchedOnWhole(wholeToo, notchedBack, 3, 7);
    }

    /** The way back goes from 866, 500 to -669, 501: it crosses the row of 500 at its very end. */
    @Sentence(at = "Terms 3", says = "the ways from place to place, the last one to the first")
    static void terms3_aWayBackThatRisesByOneThousandth() {
        SherdTable x = new SherdTable();
        closed(x, 0, 2, 1, 18, 1, 12, 1);
        closed(x, 0, 18, 9, 3, 5, 8, 4, 6, 2);
        closed(x, 0, 18, 2, 20, 4, 15, 5, 6, 9);
        due("hand(0, 1, 1, 3, 1)", x.hand(0, 1, 1, 3, 1), 0);
        where(x, 1, 0, -669, 501);
        due("join(1, 0, 2, 3, 0)", x.join(1, 0, 2, 3, 0), -6);
        liesIs(x, 1, 2, 21);
    }

    /** A small one lies on the end of a wide one that is far from the wide one's beginning. */
    @Sentence(at = "Terms 3", says = "turned and laid as they are")
    static void terms3_pointsFarFromTheBeginning() {
        int[] wide = {6, 3, 12, 12, 18, 3, 0, 12};
        int[] small = {18, 3, 12, 3, 6, 3, 0, 3};
        SherdTable x = layByHand(wide, 3, small, 1);
        due("join of a third one", x.join(0, 1, 2, 0, 0), -6);
        liesIs(x, 0, 1, 9);
        int[] smallToo = {0, 3, 6, 3, 12, 3, 18, 3};
        int[] wideBack = {18, 3, 12, 12, 6, 3, 0, 12};
        SherdTable y = layByHand(smallToo, 0, wideBack, 1);
        due("join of a third one", y.join(1, 3, 2, 0, 12), -6);
        liesIs(y, 0, 1, 9);
    }

    /** Just the end of the greater one, on its right or on its left, is under the lesser one. */
    @Sentence(at = "Terms 3", says = "the ways from place to place, the last one to the first")
    static void terms3_theEndIsTheOutermostPlace() {
        int[] right = {6, 12, 12, 10, 18, 10, 0, 12};
        SherdTable x = layByHand(new int[] {12, 1, 14, 1, 22, 1, 3, 1}, 0, right, 3);
        due("join of a third one", x.join(1, 0, 2, 0, 18), -6);
        liesIs(x, 0, 1, 1);
        int[] left = {6, 12, 0, 10, 18, 10, 12, 12};
        SherdTable y = layByHand(new int[] {0, 1, 22, 1, 14, 1, 9, 1}, 0, left, 3);
        due("join of a third one", y.join(1, 0, 2, 0, 18), -6);
        liesIs(y, 0, 1, 2);
    }

    /** Two are laid by hand; a third one with sides of 12, which FITS one of them, is refused for the points they share. */
    private static SherdTable layByHand(int[] one, int i, int[] other, int j) {
        SherdTable x = new SherdTable();
        closed(x, 0, one);
        closed(x, 0, other);
        square(x, 0, 12);
        yes("tell(3, 0)", x.tell(3, 0));
        due("hand(0, " + i + ", 1, " + j + ", 1)", x.hand(0, i, 1, j, 1), 0);
        return x;
    }

    private static void notchedOnWhole(int[] one, int[] other, int left, int facing) {
        SherdTable x = new SherdTable();
        closed(x, 0, one);
        closed(x, 0, other);
        square(x, 0, 3);
        yes("tell(0, 1)", x.tell(0, 1));
        due("hand(0, 0, 1, " + facing + ", 1)", x.hand(0, 0, 1, facing, 1), 0);
        due("join of a third one", x.join(0, left, 2, 1, 0), -6);
        liesIs(x, 0, 1, 13);
    }

    /** The end is the highest place: three points are IN by the way back from there. */
    @Sentence(at = "Terms 3", says = "the ways from place to place, the last one to the first")
    static void terms3_theEndIsTheHighestPlace() {
        pointsIn(123, 12, 10, 18, 10, 0, 12, 6, 12);
    }

    /** A place at 866, 500 on the right of the point 500, 500: just one of the two ways there crosses the row. */
    @Sentence(at = "Terms 3", says = "have y0 <= y < y1 or y1 <= y < y0")
    static void terms3_aPlaceInTheRowIsCrossedOnce() {
        pointsIn(1, 2, 1, 10, 1, 18, 1);
        pointsIn(1, 6, 1, 22, 1, 14, 1);
    }

    /** The ways to 866, 500 and on from there both stay below that row, or both above: none counts, or both. */
    @Sentence(at = "Terms 3", says = "have y0 <= y < y1 or y1 <= y < y0")
    static void terms3_aPlaceThatJustTouchesTheRow() {
        pointsIn(2, 2, 1, 22, 1, 6, 1, 12, 1, 12, 1);
        pointsIn(2, 6, 1, 22, 1, 2, 1, 18, 1, 12, 2);
    }

    /** The way up at 500 is on the point: it is beyond none, so the point is IN if that way is on its left. */
    @Sentence(at = "Terms 3", says = "cross its row at a place greater than its x")
    static void terms3_aWayThroughThePointIsNotBeyondIt() {
        SherdTable x = new SherdTable();
        closed(x, 0, 4, 1, 20, 1, 0, 9, 6, 10, 12, 10, 18, 10);
        closed(x, 0, 8, 1, 0, 2, 8, 2, 12, 1, 18, 2);
        square(x, 0, 10);
        due("hand(0, 1, 1, 0, 1)", x.hand(0, 1, 1, 0, 1), 0);
        where(x, 1, 0, 1000, 0);
        due("join(0, 3, 2, 3, 0)", x.join(0, 3, 2, 3, 0), -6);
        liesIs(x, 0, 1, 4);
    }

    /** A way crosses at 5500.88 the row of the point 5500, at 1500.57 that of 1500: a little beyond them. */
    @Sentence(at = "Terms 3", says = "(by exact fractions)")
    static void terms3_aCrossingLessThanAThousandthBeyondAPoint() {
        pointsIn(48, 0, 9, 7, 11, 16, 12);
        pointsIn(37, 5, 6, 3, 3, 11, 10, 20, 12);
    }

    /** At -2499.66 beyond -2500, at -499.4 beyond -500. */
    @Sentence(at = "Terms 3", says = "(by exact fractions)")
    static void terms3_aCrossingLessThanAThousandthBeyondAPointBelow0() {
        pointsIn(21, 17, 11, 7, 8, 2, 6);
        pointsIn(26, 7, 9, 12, 4, 20, 11);
    }

    /** The last way, of 2000, is the only one on the left of the two lowest rows: what is left of it is not IN. */
    @Sentence(at = "Terms 3", says = "the ways from place to place, the last one to the first")
    static void terms3_theWayBackBoundsWhatIsIn() {
        SherdTable x = new SherdTable();
        closed(x, 0, 0, 10, 6, 10, 12, 10, 18, 8);
        square(x, 0, 10);
        square(x, 0, 10);
        due("hand(0, 3, 1, 1, 1)", x.hand(0, 3, 1, 1, 1), 0);
        where(x, 1, 0, -10000, 0);
        yes("tell(3, 0)", x.tell(3, 0));
        due("join(0, 1, 2, 3, 0)", x.join(0, 1, 2, 3, 0), 1);
        pointsIn(100, 0, 10, 6, 10, 12, 10, 18, 8);
    }

    /** The other one is told upright, beside 0, 0, and is turned by 18 to lie on the first one. */
    @Sentence(at = "Terms 3", says = "turned and laid as they are")
    static void terms3_pointsAreThoseOfTheTurnedSherd() {
        SherdTable x = new SherdTable();
        closed(x, 0, 0, 10, 6, 2, 12, 10, 18, 2);
        closed(x, 0, 12, 2, 6, 10, 0, 2, 18, 10);
        due("join(0, 0, 1, 3, 18)", x.join(0, 0, 1, 3, 18), -6);
        liesIs(x, 0, 1, 20);
    }

    @Sentence(at = "Terms 3", says = "1 a sherd that there isn't, or is OPEN; both the same; no such i, j, t")
    static void terms3_refusal1() {
        SherdTable x = squares(2);
        open(x, 0, 0, 10, 6, 10, 12, 10, 18, 10);
        String before = everything(x);
        due("no such a", x.join(3, 0, 1, 2, 0), -1);
        due("no such a", x.join(-1, 0, 1, 2, 0), -1);
        due("no such b", x.join(0, 0, 3, 2, 0), -1);
        due("no such b", x.join(0, 0, -1, 2, 0), -1);
        due("a is open", x.join(2, 0, 1, 2, 0), -1);
        due("b is open", x.join(0, 0, 2, 2, 0), -1);
        due("both the same", x.join(0, 0, 0, 2, 0), -1);
        due("no such i", x.join(0, 4, 1, 2, 0), -1);
        due("no such i", x.join(0, -1, 1, 2, 0), -1);
        due("no such j", x.join(0, 0, 1, 4, 0), -1);
        due("no such j", x.join(0, 0, 1, -1, 0), -1);
        due("no such t", x.join(0, 0, 1, 2, 24), -1);
        due("no such t", x.join(0, 0, 1, 2, -1), -1);
        unchanged(before, x);
    }

    /** i is a step of the first one that is named: of a triangle there is no step 3, of a square there is. */
    @Sentence(at = "Terms 3", says = "no such i, j, t")
    static void terms3_refusal1EachWithItsOwnSteps() {
        SherdTable x = new SherdTable();
        triangle(x, 0, 10);
        square(x, 0, 10);
        due("join(0, 3, 1, 0, 0)", x.join(0, 3, 1, 0, 0), -1);
        due("join(1, 0, 0, 3, 0)", x.join(1, 0, 0, 3, 0), -1);
        due("join(1, 3, 0, 0, 18)", x.join(1, 3, 0, 0, 18), 0);
    }

    @Sentence(at = "Terms 3", says = "2 it is no SPAN")
    static void terms3_refusal2() {
        SherdTable x = squares(2);
        String before = everything(x);
        due("join(0, 0, 1, 2, 1)", x.join(0, 0, 1, 2, 1), -2);
        due("join(0, 0, 1, 2, 23)", x.join(0, 0, 1, 2, 23), -2);
        unchanged(before, x);
    }

    @Sentence(at = "Terms 3", says = "To JOIN is refused, by the first of these")
    static void terms3_refusal2AheadOf3And4() {
        SherdTable x = joinedByHand(40);
        square(x, 2, 10);
        square(x, 2, 10);
        due("join, no SPAN, two Bases, forty JOINS", x.join(8, 0, 9, 2, 1), -2);
        due("join, no such t", x.join(8, 0, 9, 2, 24), -1);
    }

    @Sentence(at = "Terms 3", says = "3 any sherd of the one's GROUP and any of the other's (of unlike GROUPS) are of NO ONE POT")
    static void terms3_refusal3ByOthersOfTheGroups() {
        SherdTable x = new SherdTable();
        int[] kinds = {0, 2, 0, 2};
        for (int kind : kinds) {
            square(x, kind, 10);
        }
        due("join(0, 0, 1, 2, 0)", x.join(0, 0, 1, 2, 0), 0);
        due("join(2, 0, 3, 2, 0)", x.join(2, 0, 3, 2, 0), 1);
        String before = everything(x);
        due("join of two that are no Bases", x.join(0, 1, 2, 3, 0), -3);
        due("join of a Base and one that is none", x.join(1, 1, 2, 3, 0), -3);
        due("join of two Bases", x.join(1, 1, 3, 3, 0), -3);
        unchanged(before, x);
    }

    /** The greater one's GROUP is that of sherd 0, the least. */
    @Sentence(at = "Terms 3", says = "3 any sherd of the one's GROUP and any of the other's (of unlike GROUPS) are of NO ONE POT")
    static void terms3_refusal3ByTheLeastSherd() {
        SherdTable x = new SherdTable();
        square(x, 2, 10);
        square(x, 2, 10);
        square(x, 0, 10);
        due("join(0, 0, 2, 2, 0)", x.join(0, 0, 2, 2, 0), 0);
        due("join(1, 1, 2, 3, 0)", x.join(1, 1, 2, 3, 0), -3);
    }

    /** A GROUP that has two Bases, by hand, is joined to others all the same, and within itself. */
    @Sentence(at = "Terms 3", says = "3 any sherd of the one's GROUP and any of the other's (of unlike GROUPS) are of NO ONE POT")
    static void terms3_refusal3NotWithinAGroup() {
        SherdTable x = new SherdTable();
        square(x, 2, 10);
        square(x, 2, 10);
        square(x, 0, 10);
        due("hand(0, 1, 1, 3, 1)", x.hand(0, 1, 1, 3, 1), 0);
        due("join(1, 1, 2, 3, 0)", x.join(1, 1, 2, 3, 0), 1);
        yes("tell(2, 20000)", x.tell(2, 20000));
        due("join(0, 0, 1, 2, 0), of one GROUP", x.join(0, 0, 1, 2, 0), 2);
    }

    @Sentence(at = "Terms 3", says = "3 any sherd of the one's GROUP and any of the other's (of unlike GROUPS) are of NO ONE POT")
    static void terms3_refusal3ByEachOfItsReasons() {
        SherdTable x = squares(2);
        thicks(x, 1, 2.125);
        due("join, 11 tenths apart", x.join(0, 0, 1, 2, 0), -3);
        yes("tell(1, 11)", x.tell(1, 11));
        due("join with THICK 11", x.join(0, 0, 1, 2, 0), 0);
        SherdTable y = new SherdTable();
        square(y, 1, 10);
        square(y, 1, 10);
        yes("circle(0, 20)", y.circle(0, 20));
        yes("circle(1, 21)", y.circle(1, 21));
        due("join, unlike CIRCLES", y.join(0, 0, 1, 2, 0), -3);
    }

    @Sentence(at = "Terms 3", says = "4 there are 40")
    static void terms3_refusal4() {
        SherdTable x = joinedByHand(39);
        for (int k = 0; k < 4; k++) {
            square(x, 0, 10);
        }
        due("join, the fortieth", x.join(8, 0, 9, 2, 0), 39);
        due("join, the forty-first", x.join(10, 0, 11, 2, 0), -4);
        due("look(11, 5)", look(x, 11, 5), 11);
        due("edge(10, 0, 4)", edge(x, 10, 0, 4), -1);
    }

    @Sentence(at = "Terms 3", says = "To JOIN is refused, by the first of these")
    static void terms3_refusal3AheadOf4() {
        SherdTable x = joinedByHand(40);
        square(x, 2, 10);
        square(x, 2, 10);
        due("join of two Bases, forty JOINS", x.join(8, 0, 9, 2, 0), -3);
    }

    @Sentence(at = "Terms 3", says = "To JOIN is refused, by the first of these")
    static void terms3_refusal3AheadOf6() {
        SherdTable x = new SherdTable();
        square(x, 2, 10);
        backSquare(x, 2, 10);
        due("join of two Bases that would lie on one another", x.join(0, 0, 1, 1, 0), -3);
        due("lies(2)", x.lies(2), -1);
    }

    @Sentence(at = "Terms 3", says = "To JOIN is refused, by the first of these")
    static void terms3_refusal4AheadOf5() {
        SherdTable x = joinedByHand(39);
        square(x, 0, 10);
        square(x, 0, 10);
        due("hand(8, 0, 9, 2, 1), the fortieth", x.hand(8, 0, 9, 2, 1), 39);
        due("join that misses, forty JOINS", x.join(8, 1, 9, 3, 0), -4);
        due("round()", x.round(), -1);
        due("part(0)", x.part(0), 5);
        due("join that misses", x.join(8, 1, 9, 3, 0), -5);
        due("round()", x.round(), 10000);
    }

    @Sentence(at = "Terms 3", says = "To JOIN is refused, by the first of these")
    static void terms3_refusal4AheadOf6() {
        SherdTable x = joinedByHand(40);
        square(x, 0, 10);
        backSquare(x, 0, 10);
        due("join of two that would lie on one another, forty JOINS", x.join(8, 0, 9, 1, 0), -4);
        due("lies(2)", x.lies(2), -1);
        due("undo(1)", x.undo(1), 39);
        due("join of two that would lie on one another", x.join(8, 0, 9, 1, 0), -6);
        liesIs(x, 8, 9, 100);
    }

    /** The two lie on one another, by hand, and the JOIN misses too. */
    @Sentence(at = "Terms 3", says = "To JOIN is refused, by the first of these")
    static void terms3_refusal5AheadOf6() {
        SherdTable x = new SherdTable();
        square(x, 0, 10);
        backSquare(x, 0, 10);
        due("hand(0, 0, 1, 1, 1)", x.hand(0, 0, 1, 1, 1), 0);
        square(x, 0, 10);
        due("hand(0, 3, 2, 1, 1)", x.hand(0, 3, 2, 1, 1), 1);
        due("join(0, 1, 2, 3, 0), it misses", x.join(0, 1, 2, 3, 0), -5);
        due("round()", x.round(), 20000);
        due("lies(2)", x.lies(2), -1);
        due("join(0, 1, 1, 0, 0), it doesn't miss", x.join(0, 1, 1, 0, 0), -6);
        liesIs(x, 0, 1, 100);
    }

    @Sentence(at = "Terms 3", says = "5 it comes round, and MISSES by more than ROUND")
    static void terms3_refusal5ByRoundAsItIsTold() {
        SherdTable x = squares(2);
        due("join(0, 0, 1, 2, 0)", x.join(0, 0, 1, 2, 0), 0);
        yes("tell(2, 9999)", x.tell(2, 9999));
        due("join that misses by ROUND and one", x.join(0, 1, 1, 3, 0), -5);
        due("round()", x.round(), 10000);
        String before = everything(x);
        due("join that misses, again", x.join(0, 1, 1, 3, 0), -5);
        unchanged(before, x);
        yes("tell(2, 10000)", x.tell(2, 10000));
        due("join that misses by ROUND", x.join(0, 1, 1, 3, 0), 1);
    }

    @Sentence(at = "Terms 3", says = "5 it comes round, and MISSES by more than ROUND")
    static void terms3_refusal5WithRound0() {
        SherdTable x = ringOfTurned();
        yes("tell(2, 0)", x.tell(2, 0));
        due("join that comes round and doesn't miss", x.join(2, 1, 3, 2, 6), 3);
    }

    /** Two of unlike GROUPS don't come round, wherever they lie. */
    @Sentence(at = "Terms 3", says = "5 it comes round, and MISSES by more than ROUND")
    static void terms3_refusal5NotOfUnlikeGroups() {
        SherdTable x = squares(2);
        yes("tell(2, 0)", x.tell(2, 0));
        due("join(0, 1, 1, 0, 18)", x.join(0, 1, 1, 0, 18), 0);
        due("round()", x.round(), -1);
    }

    @Sentence(at = "Terms 3", says = "6 a sherd would LIE ON another one")
    static void terms3_refusal6LeavesAllAsItWas() {
        SherdTable x = new SherdTable();
        square(x, 0, 10);
        backSquare(x, 0, 10);
        due("join(0, 0, 1, 1, 0)", x.join(0, 0, 1, 1, 0), -6);
        String before = everything(x);
        due("join(0, 1, 1, 0, 0)", x.join(0, 1, 1, 0, 0), -6);
        unchanged(before, x);
        due("groups()", x.groups(), 2);
        due("undo(1)", x.undo(1), -1);
        yes("tell(3, 100)", x.tell(3, 100));
        due("join with SHARE 100, number 0", x.join(0, 0, 1, 1, 0), 0);
    }

    /** 4 would be laid where 3 is; the two that are joined, 2 and 4, don't lie on one another. */
    @Sentence(at = "Terms 3", says = "(each pair of the GROUP as it would be)")
    static void terms3_refusal6ByOneOfTheGroup() {
        SherdTable x = squares(5);
        due("join(0, 0, 1, 2, 0)", x.join(0, 0, 1, 2, 0), 0);
        due("join(0, 1, 2, 3, 0)", x.join(0, 1, 2, 3, 0), 1);
        due("join(1, 1, 3, 3, 0)", x.join(1, 1, 3, 3, 0), 2);
        due("join(2, 0, 4, 2, 0)", x.join(2, 0, 4, 2, 0), -6);
        liesIs(x, 3, 4, 100);
    }

    /** 2, 3, 4 are a GROUP already, and 4 would be laid where 1 is. */
    @Sentence(at = "Terms 3", says = "(each pair of the GROUP as it would be)")
    static void terms3_refusal6ByOneOfEachGroup() {
        SherdTable x = squares(5);
        due("join(0, 1, 1, 3, 0)", x.join(0, 1, 1, 3, 0), 0);
        due("join(2, 1, 3, 3, 0)", x.join(2, 1, 3, 3, 0), 1);
        due("join(3, 0, 4, 2, 0)", x.join(3, 0, 4, 2, 0), 2);
        due("join(0, 2, 2, 0, 0)", x.join(0, 2, 2, 0, 0), -6);
        liesIs(x, 1, 4, 100);
        where(x, 4, 0, 10000, -10000);
    }

    /** Two that lie on one another by hand keep a third one from being joined, though it lies free. */
    @Sentence(at = "Terms 3", says = "(each pair of the GROUP as it would be)")
    static void terms3_refusal6ByTwoThatLayThereBefore() {
        SherdTable x = new SherdTable();
        square(x, 0, 10);
        backSquare(x, 0, 10);
        square(x, 0, 10);
        due("hand(0, 0, 1, 1, 1)", x.hand(0, 0, 1, 1, 1), 0);
        due("join(0, 3, 2, 1, 0)", x.join(0, 3, 2, 1, 0), -6);
        liesIs(x, 0, 1, 100);
    }

    /** The JOIN gets the free number 0, so that by it 2 is laid anew, left of 0, where 5 is. */
    @Sentence(at = "Terms 3", says = "(each pair of the GROUP as it would be)")
    static void terms3_refusal6AsItWouldBeLaid() {
        SherdTable x = squares(6);
        due("hand(0, 0, 1, 2, 1)", x.hand(0, 0, 1, 2, 1), 0);
        due("hand(0, 1, 2, 3, 1)", x.hand(0, 1, 2, 3, 1), 1);
        due("hand(0, 2, 3, 0, 1)", x.hand(0, 2, 3, 0, 1), 2);
        due("hand(3, 3, 4, 1, 1)", x.hand(3, 3, 4, 1, 1), 3);
        due("hand(4, 0, 5, 2, 1)", x.hand(4, 0, 5, 2, 1), 4);
        where(x, 5, 0, -10000, 0);
        yes("tell(2, 20000)", x.tell(2, 20000));
        due("join(0, 3, 2, 1, 0), number 5", x.join(0, 3, 2, 1, 0), 5);
        due("undo(1)", x.undo(1), 5);
        due("part(0)", x.part(0), 2);
        due("join(0, 3, 2, 1, 0), number 0", x.join(0, 3, 2, 1, 0), -6);
        liesIs(x, 2, 5, 100);
        where(x, 2, 0, 10000, 0);
        due("joined(0, 0)", x.joined(0, 0), -1);
    }

    @Sentence(at = "Terms 3", says = "By hand just 1")
    static void terms3_handRefusal1() {
        SherdTable x = squares(2);
        open(x, 0, 0, 10, 6, 10, 12, 10, 18, 10);
        String before = everything(x);
        due("no such a", x.hand(3, 0, 1, 2, 1), -1);
        due("no such b", x.hand(0, 0, -1, 2, 1), -1);
        due("a is open", x.hand(2, 0, 1, 2, 1), -1);
        due("b is open", x.hand(0, 0, 2, 2, 1), -1);
        due("both the same", x.hand(0, 0, 0, 2, 1), -1);
        due("no such i", x.hand(0, 4, 1, 2, 1), -1);
        due("no such i", x.hand(0, -1, 1, 2, 1), -1);
        due("no such j", x.hand(0, 0, 1, 4, 1), -1);
        due("no such j", x.hand(0, 0, 1, -1, 1), -1);
        unchanged(before, x);
    }

    @Sentence(at = "Terms 3", says = "a number n of pairs that is not 1 .. the lesser EDGE's")
    static void terms3_handRefusal2ByN() {
        SherdTable x = new SherdTable();
        square(x, 0, 10);
        triangle(x, 0, 10);
        String before = everything(x);
        for (int bad : new int[] {0, 4, -1, MIN, MAX}) {
            due("hand(0, 0, 1, 0, " + bad + ")", x.hand(0, 0, 1, 0, bad), -2);
            due("hand(1, 0, 0, 0, " + bad + ")", x.hand(1, 0, 0, 0, bad), -2);
        }
        unchanged(before, x);
        due("hand, as many as the lesser EDGE's", x.hand(0, 0, 1, 0, 3), 0);
        due("look(1, 9)", look(x, 1, 9), 3);
        due("undo(1)", x.undo(1), 0);
        due("hand, one pair", x.hand(0, 0, 1, 0, 1), 0);
    }

    /** The last of the pairs: step 3 of a, and of b step 3, past its first. */
    @Sentence(at = "Terms 3", says = "or one of these steps is in a JOIN (2)")
    static void terms3_handRefusal2ByAStepInAJoin() {
        SherdTable x = squares(3);
        due("hand(0, 3, 2, 0, 1)", x.hand(0, 3, 2, 0, 1), 0);
        due("hand, the last of a's steps is", x.hand(0, 1, 1, 2, 3), -2);
        due("hand, the first of a's steps is", x.hand(0, 3, 1, 2, 2), -2);
        due("hand up to it", x.hand(0, 1, 1, 2, 2), 1);
        due("undo(2)", x.undo(2), 0);
        due("hand(1, 3, 2, 0, 1)", x.hand(1, 3, 2, 0, 1), 0);
        due("hand, the last of b's steps is", x.hand(0, 0, 1, 1, 3), -2);
        due("hand, the first of b's steps is", x.hand(0, 0, 1, 3, 1), -2);
        due("hand up to it", x.hand(0, 0, 1, 1, 2), 1);
    }

    @Sentence(at = "Terms 3", says = "and 4 count")
    static void terms3_handRefusal4IsBehind2() {
        SherdTable x = joinedByHand(40);
        due("hand, the forty-first", x.hand(6, 4, 7, 4, 1), -4);
        due("hand of a step in a JOIN, forty JOINS", x.hand(6, 3, 7, 4, 1), -2);
        due("hand, n 0, forty JOINS", x.hand(6, 4, 7, 4, 0), -2);
        due("hand, no such step, forty JOINS", x.hand(6, 12, 7, 4, 1), -1);
    }

    /** No BREAK, no one length, two Bases of unlike THICKNESS, nothing that comes round, nothing that lies free. */
    @Sentence(at = "Terms 3", says = "By hand just 1")
    static void terms3_handIsNotRefusedByTheOthers() {
        SherdTable x = new SherdTable();
        square(x, 2, 10);
        backSquare(x, 2, 7);
        square(x, 4, 3);
        yes("thick(0, 1)", x.thick(0, bits(1)));
        yes("thick(1, 9)", x.thick(1, bits(9)));
        due("hand of two Bases, one on the other", x.hand(0, 0, 1, 1, 1), 0);
        due("hand that comes round and misses", x.hand(0, 2, 1, 0, 1), 1);
        due("joined(1, 7)", x.joined(1, 7), TURNED_OTHERWISE);
        due("hand of no BREAK", x.hand(1, 2, 2, 3, 1), 2);
        due("round()", x.round(), -1);
        due("lies(2)", x.lies(2), -1);
    }
}
