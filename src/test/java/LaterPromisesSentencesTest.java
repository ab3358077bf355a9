/** Each sentence of promises 15 to 28 that names a boundary case. */
public final class LaterPromisesSentencesTest extends Bench {
    public static void main(String[] args) {
        Sentences.runAllOf(LaterPromisesSentencesTest.class);
        end();
    }

    @Sentence(at = "Promise 15", says = "How many SPANS two sherds have")
    static void promise15_noneAndMoreThan50() {
        SherdTable x = new SherdTable();
        square(x, 0, 5);
        square(x, 0, 5);
        twelveSided(x, 0, 6);
        twelveSided(x, 0, 6);
        due("spans(0, 1), none", x.spans(0, 1), 0);
        due("spans(2, 3), more than span() tells", x.spans(2, 3), 144);
        due("spans(3, 2)", x.spans(3, 2), 144);
    }

    @Sentence(at = "Promise 15", says = "How many SPANS two sherds have")
    static void promise15_ofTheseTwoOnlyAndAsItIsNow() {
        SherdTable x = squares(3);
        due("spans(0, 2)", x.spans(0, 2), 16);
        due("hand(0, 0, 1, 0, 1)", x.hand(0, 0, 1, 0, 1), 0);
        due("spans(0, 2) with a step of 0 in a JOIN", x.spans(0, 2), 12);
        due("spans(0, 1) with a step of either in a JOIN", x.spans(0, 1), 9);
        due("part(0)", x.part(0), 3);
        due("spans(0, 1)", x.spans(0, 1), 16);
    }

    @Sentence(at = "Promise 15", says = "NONE: one that there isn't")
    static void promise15_oneThatThereIsnt() {
        SherdTable x = squares(2);
        for (int bad : new int[] {-1, 2, 12, MIN, MAX}) {
            due("spans(0, " + bad + ")", x.spans(0, bad), -1);
            due("spans(" + bad + ", 0)", x.spans(bad, 0), -1);
        }
    }

    @Sentence(at = "Promise 15", says = "or is OPEN")
    static void promise15_oneThatIsOpen() {
        SherdTable x = squares(1);
        open(x, 0, 0, 10, 6, 10, 12, 10, 18, 10);
        due("spans(0, 1)", x.spans(0, 1), -1);
        due("spans(1, 0)", x.spans(1, 0), -1);
        due("close(1)", x.close(1), 0);
        due("spans(0, 1)", x.spans(0, 1), 16);
    }

    @Sentence(at = "Promise 15", says = "or both the same")
    static void promise15_bothTheSame() {
        SherdTable x = squares(2);
        due("spans(0, 0)", x.spans(0, 0), -1);
        due("spans(1, 1)", x.spans(1, 1), -1);
    }

    @Sentence(at = "Promise 16", says = "Of the k-th SPAN, in order")
    static void promise16_theFirstAndTheLast() {
        SherdTable x = squares(2);
        due("spans(0, 1)", x.spans(0, 1), 16);
        spanIs(x, 0, 0, 0, 12, 1, 10, 0);
        spanIs(x, 15, 3, 3, 12, 1, 10, 0);
        spanIs(x, 16, -1, -1, -1, -1, -1, -1);
    }

    /** The SPANS stay as they were told, whatever becomes of the sherds. */
    @Sentence(at = "Promise 16", says = "of the latest spans() that was not NONE")
    static void promise16_ofTheLatestThatWasNotNone() {
        SherdTable x = squares(2);
        square(x, 0, 7);
        square(x, 0, 7);
        due("spans(2, 3)", x.spans(2, 3), 16);
        spanIs(x, 0, 0, 0, 12, 1, 7, 0);
        due("spans(0, 1)", x.spans(0, 1), 16);
        due("spans that is NONE", x.spans(0, 4), -1);
        due("spans that is NONE", x.spans(0, 0), -1);
        spanIs(x, 1, 0, 1, 6, 1, 10, 0);
        due("join(0, 0, 1, 1, 6)", x.join(0, 0, 1, 1, 6), 0);
        due("order()", x.order(), 0);
        yes("tell(0, 50)", x.tell(0, 50));
        spanIs(x, 1, 0, 1, 6, 1, 10, 0);
        due("spans(2, 3) with LEAST 50", x.spans(2, 3), 0);
        spanIs(x, 0, -1, -1, -1, -1, -1, -1);
    }

    @Sentence(at = "Promise 16", says = "(the first 50)")
    static void promise16_theFirst50() {
        SherdTable x = new SherdTable();
        twelveSided(x, 0, 6);
        twelveSided(x, 0, 6);
        due("spans(0, 1)", x.spans(0, 1), 144);
        spanIs(x, 48, 4, 0, 20, 1, 6, 0);
        spanIs(x, 49, 4, 1, 18, 1, 6, 0);
        spanIs(x, 50, -1, -1, -1, -1, -1, -1);
        spanIs(x, 143, -1, -1, -1, -1, -1, -1);
    }

    /** The 50 are the first in order, not those that were found first: 12 steps of 6 are found, then one of 7. */
    @Sentence(at = "Promise 16", says = "(the first 50)")
    static void promise16_theFirst50InOrder() {
        SherdTable x = new SherdTable();
        for (int s = 0; s < 2; s++) {
            x.sherd(0);
            for (int k = 0; k < 12; k++) {
                x.step(s, 2 * k, k == 11 ? 7 : 6);
            }
            due("close(" + s + ")", x.close(s), 0);
        }
        due("spans(0, 1)", x.spans(0, 1), 122);
        spanIs(x, 0, 11, 11, 12, 1, 7, 0);
        spanIs(x, 1, 0, 0, 12, 1, 6, 0);
        spanIs(x, 49, 4, 4, 12, 1, 6, 0);
        spanIs(x, 50, -1);
    }

    @Sentence(at = "Promise 16", says = "NONE if there is none such")
    static void promise16_noSuchKOrWhat() {
        SherdTable x = squares(2);
        due("span(0, 0) ahead of any spans()", x.span(0, 0), -1);
        due("spans(0, 1)", x.spans(0, 1), 16);
        for (int bad : new int[] {-1, 16, 50, MIN, MAX}) {
            due("span(" + bad + ", 0)", x.span(bad, 0), -1);
        }
        for (int bad : new int[] {-1, 6, MIN, MAX}) {
            due("span(0, " + bad + ")", x.span(0, bad), -1);
        }
    }

    @Sentence(at = "Promise 17", says = "0, or why two are of NO ONE POT")
    static void promise17_eachReasonEitherWay() {
        SherdTable x = new SherdTable();
        for (int kind : new int[] {2, 2, 1, 1, 0, 0}) {
            x.sherd(kind);
        }
        yes("circle(2, 1)", x.circle(2, 1));
        yes("circle(3, 2)", x.circle(3, 2));
        yes("thick(4, 0)", x.thick(4, 0));
        yes("thick(5, 1.125)", x.thick(5, bits(1.125)));
        int[][] want = {{0, 1, 2}, {2, 3, 3}, {4, 5, 1}, {0, 2, 0}, {3, 4, 0}};
        for (int[] w : want) {
            due("two(" + w[0] + ", " + w[1] + ")", x.two(w[0], w[1]), w[2]);
            due("two(" + w[1] + ", " + w[0] + ")", x.two(w[1], w[0]), w[2]);
        }
    }

    @Sentence(at = "Promise 17", says = "NONE: one that there isn't, or both the same")
    static void promise17_oneThatThereIsntOrBothTheSame() {
        SherdTable x = new SherdTable();
        due("two(0, 1) of an empty table", x.two(0, 1), -1);
        x.sherd(2);
        x.sherd(2);
        for (int bad : new int[] {-1, 2, 12, MIN, MAX}) {
            due("two(0, " + bad + ")", x.two(0, bad), -1);
            due("two(" + bad + ", 0)", x.two(bad, 0), -1);
        }
        due("two(0, 0)", x.two(0, 0), -1);
        due("two(1, 1)", x.two(1, 1), -1);
        due("two(0, 1), both open", x.two(0, 1), 2);
    }

    /** 0 and 3 are in part 0, 1 in part 1; 2 is apart from 3 too, but 3 comes later. */
    @Sentence(at = "Promise 18", says = "one by one each to the first part of whose sherds none is of NO ONE POT with it")
    static void promise18_theFirstPartThatTakesIt() {
        SherdTable x = new SherdTable();
        for (int k = 0; k < 5; k++) {
            x.sherd(0);
        }
        thicks(x, 1, 3, 2, 1, 4);
        int[] want = {0, 1, 0, 0, 1};
        for (int s = 0; s < 5; s++) {
            due("apart(" + s + ")", x.apart(s), want[s]);
        }
    }

    /** 2 is of one pot with 0, not with 1 which is in the same part: none of its sherds may be. */
    @Sentence(at = "Promise 18", says = "one by one each to the first part of whose sherds none is of NO ONE POT with it")
    static void promise18_eachSherdOfAPartCounts() {
        SherdTable x = new SherdTable();
        for (int k = 0; k < 4; k++) {
            x.sherd(0);
        }
        thicks(x, 2, 3, 1, 2);
        int[] want = {0, 0, 1, 0};
        for (int s = 0; s < 4; s++) {
            due("apart(" + s + ")", x.apart(s), want[s]);
        }
    }

    @Sentence(at = "Promise 18", says = "or a new one: the part (from 0 on) of a sherd")
    static void promise18_twelveParts() {
        SherdTable x = new SherdTable();
        for (int s = 0; s < 12; s++) {
            x.sherd(2);
        }
        for (int s = 11; s >= 0; s--) {
            due("apart(" + s + ")", x.apart(s), s);
        }
    }

    @Sentence(at = "Promise 18", says = "NONE: no such sherd")
    static void promise18_noSuchSherd() {
        SherdTable x = new SherdTable();
        due("apart(0) of an empty table", x.apart(0), -1);
        x.sherd(0);
        for (int bad : new int[] {-1, 1, 12, MIN, MAX}) {
            due("apart(" + bad + ")", x.apart(bad), -1);
        }
        due("apart(0)", x.apart(0), 0);
    }

    @Sentence(at = "Promise 19", says = "To JOIN (a, i, b, j, t as fit()): its number")
    static void promise19_whicheverIsNamedFirst() {
        SherdTable x = squares(2);
        due("join(1, 1, 0, 0, 18)", x.join(1, 1, 0, 0, 18), -2);
        due("join(1, 1, 0, 0, 6)", x.join(1, 1, 0, 0, 6), 0);
        joinIs(x, 0, 0, 0, 1, 1, 6, 1, 0, 0);
    }

    /** The SPAN goes past the last step of 0 and past the first of 1. */
    @Sentence(at = "Promise 19", says = "To JOIN (a, i, b, j, t as fit()): its number")
    static void promise19_allPairsOfTheSpanRoundAndRound() {
        SherdTable x = new SherdTable();
        square(x, 0, 10);
        backSquare(x, 0, 10);
        due("hand(0, 1, 1, 0, 1)", x.hand(0, 1, 1, 0, 1), 0);
        yes("tell(3, 100)", x.tell(3, 100));
        due("join(0, 2, 1, 3, 0)", x.join(0, 2, 1, 3, 0), 1);
        due("joined(1, 5)", x.joined(1, 5), 3);
        for (int step = 0; step < 4; step++) {
            due("edge(0, " + step + ", 4)", edge(x, 0, step, 4), step == 1 ? 0 : 1);
            due("edge(1, " + step + ", 4)", edge(x, 1, step, 4), step == 0 ? 0 : 1);
        }
    }

    @Sentence(at = "Promise 19", says = "less why it is refused (3.)")
    static void promise19_eachRefusalByItsNumber() {
        SherdTable x = squares(2);
        due("1", x.join(0, 0, 0, 2, 0), -1);
        due("2", x.join(0, 0, 1, 2, 1), -2);
        thicks(x, 1, 9);
        due("3", x.join(0, 0, 1, 2, 0), -3);
        due("hand(0, 0, 1, 2, 1)", x.hand(0, 0, 1, 2, 1), 0);
        due("5", x.join(0, 1, 1, 3, 0), -5);
        SherdTable y = joinedByHand(40);
        square(y, 0, 10);
        backSquare(y, 0, 10);
        due("4", y.join(8, 0, 9, 1, 0), -4);
        due("undo(1)", y.undo(1), 39);
        due("6", y.join(8, 0, 9, 1, 0), -6);
    }

    @Sentence(at = "Promise 20", says = "b is turned so that the first pair's steps go the same way")
    static void promise20_everyTurn() {
        for (int d = 0; d < 24; d++) {
            SherdTable x = new SherdTable();
            square(x, 0, 10);
            closed(x, 0, d, 5, (d + 8) % 24, 5, (d + 16) % 24, 5);
            due("hand(0, 3, 1, 0, 1)", x.hand(0, 3, 1, 0, 1), 0);
            due("joined(0, 4), DIRECTION " + d, x.joined(0, 4), Math.floorMod(6 - d, 24));
            due("look(1, 6)", look(x, 1, 6), Math.floorMod(6 - d, 24));
        }
    }

    @Sentence(at = "Promise 20", says = "(told, as fit())")
    static void promise20_whicheverIsNamedFirst() {
        SherdTable x = new SherdTable();
        triangle(x, 0, 10);
        square(x, 0, 10);
        due("hand(1, 3, 0, 2, 2)", x.hand(1, 3, 0, 2, 2), 0);
        joinIs(x, 0, 0, 2, 1, 3, 10, 2, 1, 0);
        due("edge(0, 0, 4), past the last of 0", edge(x, 0, 0, 4), 0);
        due("edge(1, 2, 4), back of 1", edge(x, 1, 2, 4), 0);
        due("edge(1, 0, 4)", edge(x, 1, 0, 4), -1);
    }

    /** Back past the first step of b, to its last. */
    @Sentence(at = "Promise 20", says = "By hand, n pairs, without a turn told")
    static void promise20_pairsGoRound() {
        SherdTable x = squares(2);
        due("hand(0, 2, 1, 1, 4), all of them", x.hand(0, 2, 1, 1, 4), 0);
        for (int step = 0; step < 4; step++) {
            due("edge(0, " + step + ", 4)", edge(x, 0, step, 4), 0);
            due("edge(1, " + step + ", 4)", edge(x, 1, step, 4), 0);
        }
        due("undo(1)", x.undo(1), 0);
        due("hand(0, 3, 1, 0, 2)", x.hand(0, 3, 1, 0, 2), 0);
        due("edge(0, 0, 4)", edge(x, 0, 0, 4), 0);
        due("edge(0, 2, 4)", edge(x, 0, 2, 4), -1);
        due("edge(1, 3, 4)", edge(x, 1, 3, 4), 0);
        due("edge(1, 1, 4)", edge(x, 1, 1, 4), -1);
    }

    @Sentence(at = "Promise 20", says = "its number; less why it is refused")
    static void promise20_eachRefusalByItsNumber() {
        SherdTable x = joinedByHand(40);
        due("1", x.hand(7, 4, 7, 4, 1), -1);
        due("2, of n", x.hand(6, 4, 7, 4, 13), -2);
        due("2, of a step", x.hand(6, 0, 7, 4, 1), -2);
        due("4", x.hand(6, 4, 7, 4, 1), -4);
        due("part(5)", x.part(5), 4);
        due("its number", x.hand(6, 4, 7, 4, 1), 5);
    }

    @Sentence(at = "Promise 21", says = "A JOIN is taken away: how many GROUPS there are")
    static void promise21_groupsThatPartAndThatDont() {
        SherdTable x = squares(3);
        due("hand(0, 0, 1, 2, 1)", x.hand(0, 0, 1, 2, 1), 0);
        due("hand(1, 0, 2, 2, 1)", x.hand(1, 0, 2, 2, 1), 1);
        due("hand(0, 1, 2, 3, 1)", x.hand(0, 1, 2, 3, 1), 2);
        due("part(2), the others still hold", x.part(2), 1);
        where(x, 2, 0, 0, -20000);
        due("part(0)", x.part(0), 2);
        due("look(2, 5)", look(x, 2, 5), 1);
        where(x, 2, 0, 0, -10000);
        due("part(1)", x.part(1), 3);
        for (int s = 0; s < 3; s++) {
            due("look(" + s + ", 5)", look(x, s, 5), s);
            due("look(" + s + ", 9)", look(x, s, 9), 0);
            where(x, s, 0, 0, 0);
        }
    }

    @Sentence(at = "Promise 21", says = "NONE: no such JOIN")
    static void promise21_noSuchJoin() {
        SherdTable x = squares(2);
        due("part(0)", x.part(0), -1);
        due("hand(0, 0, 1, 2, 1)", x.hand(0, 0, 1, 2, 1), 0);
        String before = everything(x);
        for (int bad : new int[] {-1, 1, 39, 40, MIN, MAX}) {
            due("part(" + bad + ")", x.part(bad), -1);
        }
        unchanged(before, x);
        due("part(0)", x.part(0), 2);
        due("part(0) again", x.part(0), -1);
    }

    @Sentence(at = "Promise 21", says = "NONE: no such JOIN")
    static void promise21_theLastNumber() {
        SherdTable x = joinedByHand(40);
        due("part(40)", x.part(40), -1);
        due("part(39)", x.part(39), 4);
        due("part(39) again", x.part(39), -1);
    }

    @Sentence(at = "Promise 22", says = "6: whether it is by hand (1, 0)")
    static void promise22_byHandOrNot() {
        SherdTable x = squares(3);
        due("hand(0, 0, 1, 2, 1)", x.hand(0, 0, 1, 2, 1), 0);
        due("join(0, 1, 2, 3, 0)", x.join(0, 1, 2, 3, 0), 1);
        due("joined(0, 6)", x.joined(0, 6), 1);
        due("joined(1, 6)", x.joined(1, 6), 0);
        due("part(0)", x.part(0), 2);
        due("join(0, 0, 1, 2, 0), the same number", x.join(0, 0, 1, 2, 0), 0);
        due("joined(0, 6)", x.joined(0, 6), 0);
    }

    @Sentence(at = "Promise 22", says = "7: by how much its two sides miss one another in their GROUP, as a JOIN that comes round")
    static void promise22_byHowMuchItsSidesMiss() {
        SherdTable x = squares(3);
        due("hand(0, 0, 1, 2, 1)", x.hand(0, 0, 1, 2, 1), 0);
        due("hand(0, 2, 1, 0, 1)", x.hand(0, 2, 1, 0, 1), 1);
        due("hand(0, 1, 1, 1, 1)", x.hand(0, 1, 1, 1, 1), 2);
        due("joined(0, 7), by it 1 is laid", x.joined(0, 7), 0);
        due("joined(1, 7)", x.joined(1, 7), 20000);
        due("joined(2, 7), turned otherwise", x.joined(2, 7), TURNED_OTHERWISE);
        due("part(0)", x.part(0), 2);
        due("joined(1, 7), by it 1 is laid now", x.joined(1, 7), 0);
        due("joined(2, 7)", x.joined(2, 7), TURNED_OTHERWISE);
    }

    @Sentence(at = "Promise 22", says = "NONE: no such JOIN, what")
    static void promise22_noSuchJoinOrWhat() {
        SherdTable x = squares(2);
        due("joined(0, 0)", x.joined(0, 0), -1);
        due("hand(0, 0, 1, 2, 1)", x.hand(0, 0, 1, 2, 1), 0);
        for (int bad : new int[] {-1, 1, 39, 40, MIN, MAX}) {
            due("joined(" + bad + ", 0)", x.joined(bad, 0), -1);
            due("joined(" + bad + ", 7)", x.joined(bad, 7), -1);
        }
        for (int bad : new int[] {-1, 8, MIN, MAX}) {
            due("joined(0, " + bad + ")", x.joined(0, bad), -1);
        }
        due("undo(1)", x.undo(1), 0);
        due("joined(0, 0), it is gone", x.joined(0, 0), -1);
    }

    @Sentence(at = "Promise 23", says = "By how much the latest one that was refused by 5 (in join(), or in order()) MISSES")
    static void promise23_theLatestInJoin() {
        SherdTable x = squares(2);
        due("join(0, 0, 1, 2, 0)", x.join(0, 0, 1, 2, 0), 0);
        due("join(0, 1, 1, 3, 0)", x.join(0, 1, 1, 3, 0), -5);
        due("round()", x.round(), 10000);
        due("join(0, 2, 1, 0, 0)", x.join(0, 2, 1, 0, 0), -5);
        due("round()", x.round(), 20000);
        due("join(0, 1, 1, 1, 12)", x.join(0, 1, 1, 1, 12), -5);
        due("round()", x.round(), TURNED_OTHERWISE);
    }

    /** Others that are refused, or not refused, leave it. */
    @Sentence(at = "Promise 23", says = "By how much the latest one that was refused by 5 (in join(), or in order()) MISSES")
    static void promise23_othersLeaveIt() {
        SherdTable x = squares(3);
        backSquare(x, 0, 10);
        due("join(0, 0, 1, 2, 0)", x.join(0, 0, 1, 2, 0), 0);
        due("join(0, 1, 1, 3, 0)", x.join(0, 1, 1, 3, 0), -5);
        due("join refused by 1", x.join(0, 1, 1, 4, 0), -1);
        due("join refused by 2", x.join(0, 1, 1, 3, 1), -2);
        due("join refused by 6", x.join(0, 1, 3, 0, 0), -6);
        due("join that is made", x.join(0, 1, 2, 3, 0), 1);
        due("hand that misses", x.hand(0, 2, 1, 0, 1), 2);
        due("undo(3)", x.undo(3), 0);
        due("round()", x.round(), 10000);
    }

    @Sentence(at = "Promise 23", says = "(in join(), or in order())")
    static void promise23_theLatestInOrder() {
        SherdTable x = new SherdTable();
        oneBreak(x, 10, 0);
        oneBreak(x, 10, 2);
        due("hand(0, 1, 1, 3, 1)", x.hand(0, 1, 1, 3, 1), 0);
        due("order()", x.order(), 0);
        due("round()", x.round(), 10000);
    }

    @Sentence(at = "Promise 23", says = "NONE ahead of any")
    static void promise23_aheadOfAny() {
        SherdTable x = squares(2);
        due("round()", x.round(), -1);
        due("hand(0, 0, 1, 2, 1)", x.hand(0, 0, 1, 2, 1), 0);
        due("hand(0, 1, 1, 3, 1), it misses", x.hand(0, 1, 1, 3, 1), 1);
        due("joined(1, 7)", x.joined(1, 7), 10000);
        due("round()", x.round(), -1);
    }

    @Sentence(at = "Promise 24", says = "what 0: the lesser, 1: the greater number (the first by the lesser, then the greater one)")
    static void promise24_theFirstByTheLesserThenTheGreater() {
        SherdTable x = new SherdTable();
        square(x, 0, 10);
        backSquare(x, 0, 10);
        backSquare(x, 0, 10);
        square(x, 0, 10);
        due("hand(0, 0, 2, 1, 1), 2 on 0", x.hand(0, 0, 2, 1, 1), 0);
        due("join(0, 2, 3, 0, 0)", x.join(0, 2, 3, 0, 0), -6);
        liesIs(x, 0, 2, 100);
        due("hand(0, 1, 1, 0, 1), 1 on 0 and on 2", x.hand(0, 1, 1, 0, 1), 1);
        due("join(0, 2, 3, 0, 0)", x.join(0, 2, 3, 0, 0), -6);
        liesIs(x, 0, 1, 100);
    }

    /** 1 lies on 2 by hand, 0 on 3: 0 is the lesser one. */
    @Sentence(at = "Promise 24", says = "(the first by the lesser, then the greater one)")
    static void promise24_theLesserAheadOfTheGreater() {
        SherdTable x = new SherdTable();
        square(x, 0, 10);
        square(x, 0, 10);
        backSquare(x, 0, 10);
        backSquare(x, 0, 7);
        square(x, 0, 10);
        due("hand(0, 1, 1, 3, 1)", x.hand(0, 1, 1, 3, 1), 0);
        due("hand(1, 0, 2, 1, 1)", x.hand(1, 0, 2, 1, 1), 1);
        due("hand(0, 3, 3, 2, 1)", x.hand(0, 3, 3, 2, 1), 2);
        due("join(0, 2, 4, 0, 0)", x.join(0, 2, 4, 0, 0), -6);
        liesIs(x, 0, 3, 49);
    }

    @Sentence(at = "Promise 24", says = "for which the latest one was refused by 6 (likewise)")
    static void promise24_theLatestAndOthersLeaveIt() {
        SherdTable x = new SherdTable();
        square(x, 0, 10);
        backSquare(x, 0, 10);
        square(x, 0, 10);
        backSquare(x, 0, 7);
        square(x, 0, 7);
        due("join(0, 0, 1, 1, 0)", x.join(0, 0, 1, 1, 0), -6);
        liesIs(x, 0, 1, 100);
        due("join(3, 0, 4, 0, 6)", x.join(3, 0, 4, 0, 6), -6);
        liesIs(x, 3, 4, 49);
        due("join refused by 2", x.join(0, 0, 1, 1, 1), -2);
        due("join that is made", x.join(0, 0, 2, 2, 0), 0);
        due("join refused by 5", x.join(0, 1, 2, 3, 0), -5);
        due("hand, one on the other", x.hand(0, 3, 1, 2, 1), 1);
        due("undo(2)", x.undo(2), 0);
        liesIs(x, 3, 4, 49);
    }

    @Sentence(at = "Promise 24", says = "for which the latest one was refused by 6 (likewise)")
    static void promise24_theLatestInOrder() {
        SherdTable x = new SherdTable();
        oneBreak(x, 10, 0);
        backSquare(x, 1, 10);
        for (int k = 0; k < 4; k++) {
            yes("mark(1, " + k + ")", x.mark(1, k, k != 1));
        }
        due("spans(0, 1)", x.spans(0, 1), 1);
        due("order()", x.order(), 0);
        liesIs(x, 0, 1, 100);
        due("groups()", x.groups(), 2);
        yes("tell(3, 100)", x.tell(3, 100));
        due("order() with SHARE 100", x.order(), 1);
    }

    @Sentence(at = "Promise 24", says = "NONE ahead of any, and for another what")
    static void promise24_aheadOfAnyAndAnotherWhat() {
        SherdTable x = new SherdTable();
        square(x, 0, 10);
        backSquare(x, 0, 10);
        liesIs(x, -1, -1, -1);
        due("hand, one on the other", x.hand(0, 0, 1, 1, 1), 0);
        liesIs(x, -1, -1, -1);
        due("join(0, 1, 1, 0, 0)", x.join(0, 1, 1, 0, 0), -6);
        for (int bad : new int[] {-1, 3, MIN, MAX}) {
            due("lies(" + bad + ")", x.lies(bad), -1);
        }
        liesIs(x, 0, 1, 100);
    }

    @Sentence(at = "Promise 25", says = "ORDERING: how many JOINS there were by this")
    static void promise25_noneOneAndSome() {
        due("order() of an empty table", new SherdTable().order(), 0);
        due("order() of one sherd", squares(1).order(), 0);
        SherdTable x = new SherdTable();
        for (int side = 6; side <= 11; side++) {
            oneBreak(x, side, 0);
            oneBreak(x, side, 2);
        }
        due("hand(10, 1, 11, 1, 1), one there is already", x.hand(10, 1, 11, 1, 1), 0);
        yes("tell(2, 0)", x.tell(2, 0));
        due("order(), those of this call", x.order(), 5);
        due("groups()", x.groups(), 6);
        due("order() again", x.order(), 0);
        due("undo(6)", x.undo(6), 0);
        due("order(), all six", x.order(), 6);
        joinIs(x, 0, 10, 0, 11, 2, 0, 1, 0, 0);
        joinIs(x, 5, 0, 0, 1, 2, 0, 1, 0, 0);
    }

    /** Not by hand, and undone like any other. */
    @Sentence(at = "Promise 25", says = "ORDERING: how many JOINS there were by this")
    static void promise25_theyAreJoinsLikeOthers() {
        SherdTable x = new SherdTable();
        oneBreak(x, 10, 0);
        oneBreak(x, 10, 2);
        due("order()", x.order(), 1);
        joinIs(x, 0, 0, 0, 1, 2, 0, 1, 0, 0);
        where(x, 1, 0, 0, -10000);
        due("undo(1)", x.undo(1), 0);
        due("order()", x.order(), 1);
        due("part(0)", x.part(0), 2);
    }

    @Sentence(at = "Promise 26", says = "How many GROUPS there are")
    static void promise26_fromNoneToTwelveAndBack() {
        SherdTable x = new SherdTable();
        due("groups() of an empty table", x.groups(), 0);
        for (int k = 0; k < 11; k++) {
            square(x, 0, 10);
            due("groups()", x.groups(), k + 1);
        }
        x.sherd(0);
        due("groups() with an open one", x.groups(), 12);
        for (int k = 0; k < 10; k++) {
            due("hand " + k, x.hand(k, 1, k + 1, 3, 1), k);
            due("groups()", x.groups(), 11 - k);
        }
        due("hand that comes round", x.hand(0, 0, 10, 0, 1), 10);
        due("groups()", x.groups(), 2);
        where(x, 9, 12, 20000, 0);
        due("undo(11)", x.undo(11), 0);
        due("groups()", x.groups(), 12);
    }

    @Sentence(at = "Promise 27", says = "what 0: how many sherds, 1: how many JOINS")
    static void promise27_oneAloneAndAWholeTable() {
        SherdTable x = squares(12);
        due("group(11, 0)", x.group(11, 0), 1);
        due("group(11, 1)", x.group(11, 1), 0);
        for (int k = 0; k < 11; k++) {
            due("hand " + k, x.hand(k, 1, k + 1, 3, 1), k);
        }
        due("hand that comes round", x.hand(0, 0, 1, 2, 1), 11);
        for (int s = 0; s < 12; s += 11) {
            due("group(" + s + ", 0)", x.group(s, 0), 12);
            due("group(" + s + ", 1)", x.group(s, 1), 12);
            due("group(" + s + ", 2)", x.group(s, 2), 2400000000L);
        }
        due("part(5)", x.part(5), 2);
        due("group(0, 1)", x.group(0, 1), 6);
        due("group(11, 1)", x.group(11, 1), 5);
    }

    @Sentence(at = "Promise 27", says = "2: the sum of all AREAS (unturned; of OPEN ones 0)")
    static void promise27_areasUnturned() {
        SherdTable x = squares(1);
        closed(x, 0, 3, 10, 9, 10, 15, 10, 21, 10);
        open(x, 0, 0, 10, 6, 10, 12, 10, 18, 10);
        due("group(1, 2)", x.group(1, 2), 199939600);
        due("group(2, 2), an open one", x.group(2, 2), 0);
        due("join(0, 0, 1, 2, 21)", x.join(0, 0, 1, 2, 21), 0);
        due("look(1, 6)", look(x, 1, 6), 21);
        due("group(0, 2)", x.group(0, 2), 399939600);
    }

    @Sentence(at = "Promise 27", says = "3: what is missing of the CIRCLE of its first Rim with one: 6283185 times it and it again, less that sum")
    static void promise27_theFirstRimWithOne() {
        SherdTable x = new SherdTable();
        square(x, 0, 10);
        square(x, 1, 10);
        square(x, 1, 10);
        square(x, 1, 10);
        yes("circle(2, 30)", x.circle(2, 30));
        yes("circle(3, 40)", x.circle(3, 40));
        due("hand(0, 0, 3, 2, 1), the one laid first", x.hand(0, 0, 3, 2, 1), 0);
        due("hand(0, 1, 2, 3, 1)", x.hand(0, 1, 2, 3, 1), 1);
        due("hand(0, 2, 1, 0, 1)", x.hand(0, 2, 1, 0, 1), 2);
        due("group(3, 3)", x.group(3, 3), 6283185L * 900 - 800000000);
    }

    @Sentence(at = "Promise 27", says = "6283185 times it and it again")
    static void promise27_circle1And200() {
        SherdTable x = new SherdTable();
        x.sherd(1);
        yes("circle(0, 1)", x.circle(0, 1));
        due("group(0, 3)", x.group(0, 3), 6283185);
        yes("circle(0, 200)", x.circle(0, 200));
        due("group(0, 3)", x.group(0, 3), 251327400000L);
    }

    /** The square has 8000000 and more than a CIRCLE of 1; 6283185 is more than the lesser square's 2000000. */
    @Sentence(at = "Promise 27", says = "0 at least (NONE without)")
    static void promise27_nothingIsMissing() {
        SherdTable x = new SherdTable();
        square(x, 1, 2);
        square(x, 1, 1);
        due("group(0, 3) without", x.group(0, 3), -1);
        yes("circle(0, 1)", x.circle(0, 1));
        yes("circle(1, 1)", x.circle(1, 1));
        due("group(0, 3)", x.group(0, 3), 0);
        due("group(1, 3)", x.group(1, 3), 4283185);
        square(x, 0, 10);
        due("group(2, 3), no Rim", x.group(2, 3), -1);
    }

    @Sentence(at = "Promise 27", says = "NONE: no such sherd, what")
    static void promise27_noSuchSherdOrWhat() {
        SherdTable x = new SherdTable();
        due("group(0, 0) of an empty table", x.group(0, 0), -1);
        x.sherd(0);
        for (int bad : new int[] {-1, 1, 12, MIN, MAX}) {
            due("group(" + bad + ", 0)", x.group(bad, 0), -1);
        }
        for (int bad : new int[] {-1, 4, MIN, MAX}) {
            due("group(0, " + bad + ")", x.group(0, bad), -1);
        }
    }

    @Sentence(at = "Promise 28", says = "The latest JOIN (as they were made, among those that there are) is taken away, n times")
    static void promise28_theLatestAsTheyWereMade() {
        SherdTable x = squares(5);
        for (int k = 0; k < 3; k++) {
            due("hand " + k, x.hand(k, 0, k + 1, 2, 1), k);
        }
        due("part(0)", x.part(0), 3);
        due("hand in place of the first", x.hand(3, 0, 4, 2, 1), 0);
        due("undo(1), not that of the greatest number", x.undo(1), 2);
        due("joined(0, 0)", x.joined(0, 0), -1);
        due("joined(2, 0)", x.joined(2, 0), 2);
        due("undo(1)", x.undo(1), 1);
        due("joined(2, 0)", x.joined(2, 0), -1);
        due("joined(1, 0)", x.joined(1, 0), 1);
    }

    /** The latest one has been taken away by part(): the one made before it is the latest then. */
    @Sentence(at = "Promise 28", says = "among those that there are")
    static void promise28_amongThoseThatThereAre() {
        SherdTable x = squares(4);
        for (int k = 0; k < 3; k++) {
            due("hand " + k, x.hand(k, 0, k + 1, 2, 1), k);
        }
        due("part(2)", x.part(2), 2);
        due("undo(1)", x.undo(1), 1);
        due("joined(1, 0)", x.joined(1, 0), -1);
        due("joined(0, 0)", x.joined(0, 0), 0);
    }

    @Sentence(at = "Promise 28", says = "is taken away, n times: how many there are yet")
    static void promise28_noneAndAllForty() {
        SherdTable x = joinedByHand(40);
        due("undo(0)", x.undo(0), 40);
        due("undo(39)", x.undo(39), 1);
        due("joined(0, 0), the first one", x.joined(0, 0), 0);
        due("groups()", x.groups(), 7);
        due("undo(1)", x.undo(1), 0);
        due("undo(0)", x.undo(0), 0);
        due("groups()", x.groups(), 8);
        due("edge(0, 0, 4)", edge(x, 0, 0, 4), -1);
        due("edge(7, 3, 4)", edge(x, 7, 3, 4), -1);
    }

    @Sentence(at = "Promise 28", says = "NONE, and nothing happens: there are not so many, or n is below 0")
    static void promise28_notSoManyOrBelow0() {
        SherdTable x = squares(3);
        due("undo(1) without any", x.undo(1), -1);
        due("hand(0, 0, 1, 2, 1)", x.hand(0, 0, 1, 2, 1), 0);
        due("hand(1, 0, 2, 2, 1)", x.hand(1, 0, 2, 2, 1), 1);
        String before = everything(x);
        for (int bad : new int[] {3, 40, 41, MAX, -1, MIN}) {
            due("undo(" + bad + ")", x.undo(bad), -1);
        }
        unchanged(before, x);
        due("undo(2), all there are", x.undo(2), 0);
    }
}
