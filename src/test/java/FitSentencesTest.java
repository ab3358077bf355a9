/** Each sentence of 'Terms', 2. FIT, that names a boundary case. */
public final class FitSentencesTest extends Bench {
    public static void main(String[] args) {
        Sentences.runAllOf(FitSentencesTest.class);
        end();
    }

    private static SherdTable two(int kindA, int sideA, int kindB, int sideB) {
        SherdTable x = new SherdTable();
        square(x, kindA, sideA);
        square(x, kindB, sideB);
        return x;
    }

    /** A square and one that goes the other way round: gone back, all its steps go as the first one's. */
    private static SherdTable allRound(int kindA, int kindB) {
        SherdTable x = new SherdTable();
        square(x, kindA, 5);
        backSquare(x, kindB, 5);
        return x;
    }

    @Sentence(at = "Terms 2", says = "Of two unlike closed sherds")
    static void terms2_oneWithItselfOrOpenDoesntFit() {
        SherdTable x = squares(1);
        open(x, 0, 0, 10, 6, 10, 12, 10, 18, 10);
        due("fit of one with itself", x.fit(0, 0, 0, 2, 0), -1);
        due("fit with an open one", x.fit(0, 0, 1, 2, 0), -1);
        due("fit with an open one, named first", x.fit(1, 2, 0, 0, 0), -1);
    }

    /** The turn is that of the greater number: the other way about the sherds would be turned by 18. */
    @Sentence(at = "Terms 2", says = "a is the one with the lesser number, b the other one")
    static void terms2_aIsTheLesserWhicheverIsNamedFirst() {
        SherdTable x = squares(2);
        due("fit(0, 0, 1, 1, 6)", x.fit(0, 0, 1, 1, 6), 1);
        due("fit(1, 1, 0, 0, 6)", x.fit(1, 1, 0, 0, 6), 1);
        due("fit(1, 1, 0, 0, 18)", x.fit(1, 1, 0, 0, 18), 0);
    }

    @Sentence(at = "Terms 2", says = "steps i + k of a and j - k of b (round and round)")
    static void terms2_stepsOfAGoOnPastTheLast() {
        SherdTable x = allRound(0, 0);
        due("hand(0, 2, 1, 3, 1)", x.hand(0, 2, 1, 3, 1), 0);
        due("fit(0, 3, 1, 2, 0)", x.fit(0, 3, 1, 2, 0), 3);
        due("fitted(0)", x.fitted(0), 15);
    }

    @Sentence(at = "Terms 2", says = "steps i + k of a and j - k of b (round and round)")
    static void terms2_stepsOfBGoBackPastTheFirst() {
        SherdTable x = allRound(0, 0);
        due("fit(0, 0, 1, 1, 0)", x.fit(0, 0, 1, 1, 0), 4);
        due("fit(0, 1, 1, 0, 0)", x.fit(0, 1, 1, 0, 0), 4);
    }

    @Sentence(at = "Terms 2", says = "b's is gone back: its DIRECTION and 12 and t")
    static void terms2_everyTurnHasItsDirection() {
        SherdTable x = new SherdTable();
        for (int k = 0; k < 2; k++) {
            twelveSided(x, 0, 6);
        }
        for (int t = 0; t < 24; t += 2) {
            int j = Math.floorMod(-12 - t, 24) / 2;
            due("fit, turned by " + t, x.fit(0, 0, 1, j, t), 1);
            due("fit, turned by one more than " + t, x.fit(0, 0, 1, j, t + 1), 0);
        }
    }

    @Sentence(at = "Terms 2", says = "FIT are the first n pairs, n as great as can be")
    static void terms2_nIs0IfTheFirstPairDoesnt() {
        SherdTable x = allRound(0, 0);
        due("fit(0, 0, 1, 0, 0)", x.fit(0, 0, 1, 0, 0), 0);
        due("fitted(0)", x.fitted(0), 0);
        due("fitted(1)", x.fitted(1), 0);
    }

    /** A triangle and one with a step more: going on, the fourth pair would fit again. */
    @Sentence(at = "Terms 2", says = "at most as many as the lesser EDGE has steps")
    static void terms2_noMorePairsThanTheLesserEdgeOfA() {
        SherdTable x = new SherdTable();
        triangle(x, 0, 1);
        closed(x, 0, 12, 1, 4, 1, 20, 1, 12, 1);
        due("fit(0, 0, 1, 3, 0)", x.fit(0, 0, 1, 3, 0), 3);
        due("fitted(0)", x.fitted(0), 3);
    }

    @Sentence(at = "Terms 2", says = "at most as many as the lesser EDGE has steps")
    static void terms2_noMorePairsThanTheLesserEdgeOfB() {
        SherdTable x = new SherdTable();
        closed(x, 0, 0, 1, 8, 1, 16, 1, 0, 1);
        closed(x, 0, 12, 1, 4, 1, 20, 1);
        due("fit(0, 0, 1, 0, 0)", x.fit(0, 0, 1, 0, 0), 3);
        due("fitted(0)", x.fitted(0), 3);
    }

    @Sentence(at = "Terms 2", says = "at most as many as the lesser EDGE has steps")
    static void terms2_twentyPairs() {
        SherdTable x = new SherdTable();
        for (int s = 0; s < 2; s++) {
            x.sherd(0);
            for (int k = 0; k < 20; k++) {
                x.step(s, k % 2 * 12, 12);
            }
            due("close(" + s + ")", x.close(s), 0);
        }
        due("fit(0, 0, 1, 1, 0)", x.fit(0, 0, 1, 1, 0), 20);
        due("fitted(0)", x.fitted(0), 240);
    }

    @Sentence(at = "Terms 2", says = "both steps are BREAKS")
    static void terms2_aStepOfAThatIsNoBreakEndsIt() {
        SherdTable x = allRound(1, 0);
        yes("mark(0, 2, true)", x.mark(0, 2, true));
        due("fit up to it", x.fit(0, 0, 1, 1, 0), 2);
        due("fit on it", x.fit(0, 2, 1, 3, 0), 0);
    }

    @Sentence(at = "Terms 2", says = "both steps are BREAKS")
    static void terms2_aStepOfBThatIsNoBreakEndsIt() {
        SherdTable x = allRound(0, 1);
        yes("mark(1, 3, true)", x.mark(1, 3, true));
        due("fit up to it", x.fit(0, 0, 1, 1, 0), 2);
        due("fit on it", x.fit(0, 2, 1, 3, 0), 0);
    }

    /** A third sherd is joined, so that just one of the two has a step in a JOIN. */
    @Sentence(at = "Terms 2", says = "and in no JOIN")
    static void terms2_aStepOfAInAJoinEndsIt() {
        SherdTable x = allRound(0, 0);
        square(x, 0, 5);
        due("hand(0, 3, 2, 0, 1)", x.hand(0, 3, 2, 0, 1), 0);
        due("fit up to it", x.fit(0, 0, 1, 1, 0), 3);
        due("fit on it", x.fit(0, 3, 1, 2, 0), 0);
        due("undo(1)", x.undo(1), 0);
        due("fit without it", x.fit(0, 3, 1, 2, 0), 4);
    }

    @Sentence(at = "Terms 2", says = "and in no JOIN")
    static void terms2_aStepOfBInAJoinEndsIt() {
        SherdTable x = allRound(0, 0);
        square(x, 0, 5);
        due("hand(1, 2, 2, 0, 1)", x.hand(1, 2, 2, 0, 1), 0);
        due("fit up to it", x.fit(0, 0, 1, 1, 0), 3);
        due("fit on it", x.fit(0, 3, 1, 2, 0), 0);
        due("part(0)", x.part(0), 3);
        due("fit without it", x.fit(0, 3, 1, 2, 0), 4);
    }

    @Sentence(at = "Terms 2", says = "if both sherds SHOW, they have the same COLOUR")
    static void terms2_anotherColourEndsIt() {
        SherdTable x = allRound(3, 3);
        paintAll(x, 0, 1, 2, 3, 4);
        paintAll(x, 1, 2, 1, 4, 9);
        due("fit up to another COLOUR", x.fit(0, 0, 1, 1, 0), 2);
        due("fit on another COLOUR", x.fit(0, 2, 1, 3, 0), 0);
        paintAll(x, 1, 2, 1, 4, 3);
        due("fit with the same COLOURS", x.fit(0, 0, 1, 1, 0), 4);
    }

    @Sentence(at = "Terms 2", says = "if both sherds SHOW, they have the same COLOUR")
    static void terms2_coloursDontCountIfJustOneShows() {
        SherdTable x = allRound(3, 0);
        paintAll(x, 0, 1, 2, 3, 4);
        due("fit, a shows", x.fit(0, 0, 1, 1, 0), 4);
        SherdTable y = allRound(5, 3);
        paintAll(y, 1, 1, 2, 3, 4);
        due("fit, b shows", y.fit(0, 0, 1, 1, 0), 4);
    }

    /** 1000 apart in X, and turned by a quarter in Y. */
    @Sentence(at = "Terms 2", says = "no farther apart, in X and in Y, than the greater SLACK of both")
    static void terms2_tooFarApartInXOrInY() {
        SherdTable x = two(0, 10, 0, 11);
        due("fit, 1000 in X", x.fit(0, 0, 1, 2, 0), 0);
        due("fit, 1000 in Y", x.fit(0, 1, 1, 3, 0), 0);
        SherdTable y = two(5, 10, 0, 12);
        due("fit, 2000 in X", y.fit(0, 0, 1, 2, 0), 0);
        due("fit, 2000 in Y", y.fit(0, 1, 1, 3, 0), 0);
    }

    @Sentence(at = "Terms 2", says = "no farther apart, in X and in Y, than the greater SLACK of both")
    static void terms2_theGreaterSlackIsOfEitherOne() {
        due("fit, a is Worn", two(5, 10, 0, 11).fit(0, 0, 1, 2, 0), 1);
        due("fit, b is Worn", two(0, 10, 5, 11).fit(0, 0, 1, 2, 0), 1);
        due("fit, none is", two(0, 10, 0, 11).fit(0, 0, 1, 2, 0), 0);
    }

    /** Each pair by itself is 1000 apart; what they have gone by so far is 1000 apart, then 2000. */
    @Sentence(at = "Terms 2", says = "behind each pair, what a's steps and b's have gone by so far are no farther apart")
    static void terms2_whatTheyHaveGoneBySoFarIsSummedUp() {
        SherdTable x = new SherdTable();
        closed(x, 5, 0, 5, 0, 5, 12, 10);
        closed(x, 0, 12, 6, 12, 6, 0, 12);
        due("fit(0, 0, 1, 1, 0)", x.fit(0, 0, 1, 1, 0), 1);
        due("fitted(1)", x.fitted(1), 1000);
    }

    /** A step of 1 on each of three: 17 turns, the outermost two of which are just 1500 apart in X, or in Y. */
    @Sentence(at = "Terms 2", says = "no farther apart, in X and in Y, than the greater SLACK of both")
    static void terms2_spansWhoseFirstPairIsAsFarApartAsCanBe() {
        for (int turn = 0; turn < 24; turn += 6) {
            SherdTable x = new SherdTable();
            closed(x, 1, turn, 1, (turn + 8) % 24, 1, (turn + 16) % 24, 1);
            triangle(x, 5, 1);
            x.mark(0, 1, true);
            x.mark(0, 2, true);
            yes("tell(0, 1)", x.tell(0, 1));
            due("spans(0, 1), turned by " + turn, x.spans(0, 1), 51);
            due("span(49, 5)", x.span(49, 5), 1500);
        }
    }

    @Sentence(at = "Terms 2", says = "LONG is the lesser sum of the LENGTHS of both sides' n steps")
    static void terms2_longIsTheLesserSum() {
        SherdTable x = two(5, 7, 0, 8);
        due("fit, a is shorter", x.fit(0, 0, 1, 2, 0), 1);
        due("fitted(0)", x.fitted(0), 7);
        SherdTable y = two(5, 8, 0, 7);
        due("fit, b is shorter", y.fit(0, 0, 1, 2, 0), 1);
        due("fitted(0)", y.fitted(0), 7);
    }

    /** Sums, not the lesser of each pair, by which it would be 5 + 6 + 11. */
    @Sentence(at = "Terms 2", says = "LONG is the lesser sum of the LENGTHS of both sides' n steps")
    static void terms2_longIsOfSumsNotOfPairs() {
        SherdTable x = new SherdTable();
        closed(x, 5, 0, 5, 0, 7, 12, 12);
        closed(x, 0, 12, 6, 12, 6, 0, 11);
        due("fit(0, 0, 1, 1, 0)", x.fit(0, 0, 1, 1, 0), 3);
        due("fitted(0), 5 + 7 + 12 and 6 + 6 + 11", x.fitted(0), 23);
        due("fitted(1)", x.fitted(1), 1000);
    }

    /** 1500 apart behind the first pair, not at all behind the others. */
    @Sentence(at = "Terms 2", says = "MISS the greatest of all these distances, in X or Y")
    static void terms2_missIsTheGreatestNotTheLast() {
        SherdTable x = new SherdTable();
        triangle(x, 5, 1);
        triangle(x, 0, 1);
        due("fit(0, 0, 1, 0, 20)", x.fit(0, 0, 1, 0, 20), 3);
        due("fitted(1)", x.fitted(1), 1500);
    }

    @Sentence(at = "Terms 2", says = "MISS the greatest of all these distances, in X or Y")
    static void terms2_missInXAndMissInY() {
        SherdTable x = new SherdTable();
        closed(x, 0, 0, 2, 6, 2, 12, 2, 18, 2);
        closed(x, 0, 0, 2, 6, 2, 12, 2, 18, 2);
        due("fit, 68 in X and 518 in Y", x.fit(0, 0, 1, 2, 1), 1);
        due("fitted(1)", x.fitted(1), 518);
        due("fit, 518 in X and 68 in Y", x.fit(0, 1, 1, 3, 1), 1);
        due("fitted(1)", x.fitted(1), 518);
    }

    @Sentence(at = "Terms 2", says = "A SPAN is i, j, t with LONG not below LEAST (6 at first)")
    static void terms2_long6IsASpanAtFirst() {
        SherdTable x = two(0, 6, 0, 6);
        due("spans(0, 1)", x.spans(0, 1), 16);
        due("join(0, 0, 1, 2, 0)", x.join(0, 0, 1, 2, 0), 0);
    }

    @Sentence(at = "Terms 2", says = "A SPAN is i, j, t with LONG not below LEAST (6 at first)")
    static void terms2_long5IsNoSpanAtFirst() {
        SherdTable x = two(0, 5, 0, 5);
        due("spans(0, 1)", x.spans(0, 1), 0);
        due("join(0, 0, 1, 2, 0)", x.join(0, 0, 1, 2, 0), -2);
        yes("tell(0, 5)", x.tell(0, 5));
        due("join(0, 0, 1, 2, 0) with LEAST 5", x.join(0, 0, 1, 2, 0), 0);
    }

    @Sentence(at = "Terms 2", says = "A SPAN is i, j, t with LONG not below LEAST (6 at first)")
    static void terms2_noPairIsNoSpanEvenWithLeast1() {
        SherdTable x = two(0, 5, 0, 5);
        yes("tell(0, 1)", x.tell(0, 1));
        due("spans(0, 1)", x.spans(0, 1), 16);
        due("join(0, 0, 1, 2, 1)", x.join(0, 0, 1, 2, 1), -2);
    }

    @Sentence(at = "Terms 2", says = "if with i - 1, j + 1, t not n + 1 or more pairs FIT")
    static void terms2_fromItsSecondPairOnItIsNoSpan() {
        SherdTable x = new SherdTable();
        closed(x, 0, 0, 6, 6, 6, 0, 6, 18, 11, 12, 12, 6, 5);
        closed(x, 0, 18, 6, 12, 6, 6, 12, 0, 12, 18, 6, 12, 6);
        due("fit from its first pair on", x.fit(0, 0, 1, 1, 0), 3);
        due("fit from its second pair on", x.fit(0, 1, 1, 0, 0), 2);
        due("join from its second pair on", x.join(0, 1, 1, 0, 0), -2);
        due("join from its third pair on", x.join(0, 2, 1, 5, 0), -2);
        due("join from its first pair on", x.join(0, 0, 1, 1, 0), 0);
    }

    /** Ahead of a's step 0 is its last one; the JOIN keeps it from going all round. */
    @Sentence(at = "Terms 2", says = "if with i - 1, j + 1, t not n + 1 or more pairs FIT")
    static void terms2_aheadOfStep0OfAIsTheLast() {
        SherdTable x = allRound(0, 0);
        due("hand(0, 2, 1, 3, 1)", x.hand(0, 2, 1, 3, 1), 0);
        due("fit(0, 0, 1, 1, 0)", x.fit(0, 0, 1, 1, 0), 2);
        due("join(0, 0, 1, 1, 0)", x.join(0, 0, 1, 1, 0), -2);
    }

    @Sentence(at = "Terms 2", says = "if with i - 1, j + 1, t not n + 1 or more pairs FIT")
    static void terms2_behindTheLastStepOfBIsStep0() {
        SherdTable x = allRound(0, 0);
        due("hand(0, 0, 1, 1, 1)", x.hand(0, 0, 1, 1, 1), 0);
        due("fit(0, 1, 1, 0, 0)", x.fit(0, 1, 1, 0, 0), 3);
        due("fit(0, 2, 1, 3, 0)", x.fit(0, 2, 1, 3, 0), 2);
        due("join(0, 2, 1, 3, 0)", x.join(0, 2, 1, 3, 0), -2);
    }

    @Sentence(at = "Terms 2", says = "if with i - 1, j + 1, t not n + 1 or more pairs FIT")
    static void terms2_behindTheLastStepOfBButOneIsTheLast() {
        SherdTable x = allRound(0, 0);
        due("hand(0, 0, 1, 1, 1)", x.hand(0, 0, 1, 1, 1), 0);
        yes("tell(0, 5)", x.tell(0, 5));
        due("fit(0, 3, 1, 2, 0)", x.fit(0, 3, 1, 2, 0), 1);
        due("join(0, 3, 1, 2, 0)", x.join(0, 3, 1, 2, 0), -2);
    }

    /** From one back on two more pairs FIT, not just one: the first pair's distance makes room for the last. */
    @Sentence(at = "Terms 2", says = "if with i - 1, j + 1, t not n + 1 or more pairs FIT")
    static void terms2_moreThanNAnd1FromOneBackIsNoSpanEither() {
        SherdTable x = new SherdTable();
        closed(x, 5, 20, 4, 0, 6, 10, 9);
        closed(x, 0, 9, 6, 6, 3, 20, 8);
        due("fit(0, 1, 1, 0, 3)", x.fit(0, 1, 1, 0, 3), 1);
        due("fitted(0)", x.fitted(0), 6);
        due("fit(0, 0, 1, 1, 3)", x.fit(0, 0, 1, 1, 3), 3);
        due("join(0, 1, 1, 0, 3)", x.join(0, 1, 1, 0, 3), -2);
    }

    /** From one back on just as many pairs FIT: both are SPANS. */
    @Sentence(at = "Terms 2", says = "if with i - 1, j + 1, t not n + 1 or more pairs FIT")
    static void terms2_asManyFromOneBackIsASpan() {
        SherdTable x = new SherdTable();
        closed(x, 5, 22, 3, 14, 2, 23, 4, 10, 6, 3, 1);
        closed(x, 0, 0, 5, 0, 2, 12, 7);
        due("fit(0, 3, 1, 2, 10)", x.fit(0, 3, 1, 2, 10), 2);
        due("fitted(0)", x.fitted(0), 7);
        due("fit(0, 2, 1, 0, 10)", x.fit(0, 2, 1, 0, 10), 2);
        yes("tell(3, 1000)", x.tell(3, 1000));
        due("join(0, 3, 1, 2, 10)", x.join(0, 3, 1, 2, 10), 0);
        due("joined(0, 5)", x.joined(0, 5), 2);
    }

    /** As many pairs as can be from every step on: one back there can't be one more. */
    @Sentence(at = "Terms 2", says = "if with i - 1, j + 1, t not n + 1 or more pairs FIT")
    static void terms2_allRoundEveryStepBeginsASpan() {
        SherdTable x = allRound(0, 0);
        due("spans(0, 1)", x.spans(0, 1), 16);
        for (int k = 0; k < 16; k++) {
            int i = k / 4;
            int j = k % 4;
            spanIs(x, k, i, j, Math.floorMod(6 * (i + j - 1), 24), 4, 20, 0);
        }
    }

    @Sentence(at = "Terms 2", says = "Order of SPANS: the greater LONG first")
    static void terms2_theGreaterLongIsFirst() {
        SherdTable x = new SherdTable();
        closed(x, 0, 0, 7, 6, 9, 12, 7, 18, 9);
        closed(x, 0, 0, 7, 6, 9, 12, 7, 18, 9);
        due("spans(0, 1)", x.spans(0, 1), 8);
        spanIs(x, 3, 3, 3, 12, 1, 9, 0);
        spanIs(x, 4, 0, 0, 12, 1, 7, 0);
    }

    /** 7 on 7 has MISS 0 and is behind 8 on 7 with MISS 1000 in i, j. */
    @Sentence(at = "Terms 2", says = "then the lesser MISS")
    static void terms2_thenTheLesserMiss() {
        SherdTable x = new SherdTable();
        closed(x, 5, 0, 8, 6, 7, 12, 8, 18, 7);
        square(x, 0, 7);
        due("spans(0, 1)", x.spans(0, 1), 16);
        spanIs(x, 0, 1, 0, 18, 1, 7, 0);
        spanIs(x, 7, 3, 3, 12, 1, 7, 0);
        spanIs(x, 8, 0, 0, 12, 1, 7, 1000);
    }

    @Sentence(at = "Terms 2", says = "then the lesser a, b, i, j, t")
    static void terms2_thenTheLesserIThenJ() {
        SherdTable x = squares(2);
        due("spans(1, 0)", x.spans(1, 0), 16);
        for (int k = 0; k < 16; k++) {
            spanIs(x, k, k / 4, k % 4, Math.floorMod(6 * (k / 4 - k % 4) - 12, 24), 1, 10, 0);
        }
    }

    /** Turned by one more or one less a step of 2 is 518 apart either way. */
    @Sentence(at = "Terms 2", says = "then the lesser a, b, i, j, t")
    static void terms2_thenTheLesserT() {
        SherdTable x = new SherdTable();
        closed(x, 1, 0, 2, 8, 2, 16, 2);
        closed(x, 1, 0, 2, 8, 2, 16, 2);
        for (int s = 0; s < 2; s++) {
            x.mark(s, 1, true);
            x.mark(s, 2, true);
        }
        yes("tell(0, 2)", x.tell(0, 2));
        due("spans(0, 1)", x.spans(0, 1), 3);
        spanIs(x, 0, 0, 0, 12, 1, 2, 0);
        spanIs(x, 1, 0, 0, 11, 1, 2, 518);
        spanIs(x, 2, 0, 0, 13, 1, 2, 518);
    }

    private static SherdTable thickTwo(int kind, double a, double b) {
        SherdTable x = new SherdTable();
        x.sherd(kind);
        x.sherd(kind);
        thicks(x, a, b);
        return x;
    }

    @Sentence(at = "Terms 2", says = "1 both are measured, and farther apart in THICKNESS than THICK tenths (10 at first)")
    static void terms2_10TenthsApartAtFirstIsNotTooFar() {
        due("two(0, 1)", thickTwo(0, 3, 4).two(0, 1), 0);
        due("two(0, 1) the other way about", thickTwo(0, 4, 3).two(0, 1), 0);
    }

    @Sentence(at = "Terms 2", says = "1 both are measured, and farther apart in THICKNESS than THICK tenths (10 at first)")
    static void terms2_11TenthsApartAtFirstIsTooFar() {
        due("two(0, 1)", thickTwo(0, 3, 4.125).two(0, 1), 1);
        due("two(0, 1) the other way about", thickTwo(0, 4.125, 3).two(0, 1), 1);
    }

    /** It is the tenths that are compared: 0.99 and 2.01 are 9 and 20. */
    @Sentence(at = "Terms 2", says = "1 both are measured, and farther apart in THICKNESS than THICK tenths (10 at first)")
    static void terms2_tenthsAreComparedAsTheyAreCut() {
        due("two of 0.99 and 2.01", thickTwo(0, 0.99, 2.01).two(0, 1), 1);
        due("two of 1.01 and 2.09", thickTwo(0, 1.01, 2.09).two(0, 1), 0);
    }

    @Sentence(at = "Terms 2", says = "1 both are measured, and farther apart in THICKNESS than THICK tenths (10 at first)")
    static void terms2_oneThatIsNotMeasuredIsNotApart() {
        SherdTable x = thickTwo(0, 0, 1000);
        due("two(0, 1)", x.two(0, 1), 1);
        yes("thick(0, no number)", x.thick(0, NO_NUMBER));
        due("two(0, 1), the lesser not measured", x.two(0, 1), 0);
        yes("thick(0, 0)", x.thick(0, 0));
        yes("thick(1, no number)", x.thick(1, NO_NUMBER));
        due("two(0, 1), the greater not measured", x.two(0, 1), 0);
    }

    @Sentence(at = "Terms 2", says = "2 both are Bases")
    static void terms2_bothAreBases() {
        for (int kind = 0; kind < 6; kind++) {
            SherdTable x = new SherdTable();
            x.sherd(2);
            x.sherd(kind);
            due("two of a Base and KIND " + kind, x.two(0, 1), kind == 2 ? 2 : 0);
        }
    }

    @Sentence(at = "Terms 2", says = "3 both are Rims with unlike CIRCLES")
    static void terms2_unlikeCircles() {
        SherdTable x = new SherdTable();
        x.sherd(1);
        x.sherd(1);
        due("two Rims without CIRCLES", x.two(0, 1), 0);
        yes("circle(0, 20)", x.circle(0, 20));
        due("two Rims, one with a CIRCLE", x.two(0, 1), 0);
        yes("circle(1, 20)", x.circle(1, 20));
        due("two Rims with the same CIRCLE", x.two(0, 1), 0);
        yes("circle(1, 21)", x.circle(1, 21));
        due("two Rims with unlike CIRCLES", x.two(0, 1), 3);
    }

    @Sentence(at = "Terms 2", says = "NO ONE POT are two sherds, by the first of these")
    static void terms2_thicknessIsToldAheadOfTheOthers() {
        due("two Bases, too far apart", thickTwo(2, 1, 9).two(0, 1), 1);
        SherdTable x = thickTwo(1, 1, 9);
        yes("circle(0, 20)", x.circle(0, 20));
        yes("circle(1, 21)", x.circle(1, 21));
        due("two Rims with unlike CIRCLES, too far apart", x.two(0, 1), 1);
        due("two Bases, near enough", thickTwo(2, 1, 2).two(0, 1), 2);
    }
}
