/** Each sentence of 'Terms', 4. SURE, that names a boundary case. */
public final class SureSentencesTest extends Bench {
    public static void main(String[] args) {
        Sentences.runAllOf(SureSentencesTest.class);
        end();
    }

    /** Squares with sides of 10 of Painted ones: steps FIT if their COLOURS are the same. */
    private static SherdTable painted(int[]... colours) {
        SherdTable x = new SherdTable();
        for (int s = 0; s < colours.length; s++) {
            square(x, 3, 10);
            paintAll(x, s, colours[s]);
        }
        return x;
    }

    @Sentence(at = "Terms 4", says = "SURE is a SPAN that could be JOINED, if no other SPAN")
    static void terms4_theOnlySpanIsSure() {
        SherdTable x = painted(new int[] {1, 2, 2, 2}, new int[] {3, 3, 1, 3});
        due("spans(0, 1)", x.spans(0, 1), 1);
        due("order()", x.order(), 1);
        joinIs(x, 0, 0, 0, 1, 2, 0, 1, 0, 0);
        due("order() again", x.order(), 0);
    }

    @Sentence(at = "Terms 4", says = "SURE is a SPAN that could be JOINED, if no other SPAN")
    static void terms4_noSpanIsNotSure() {
        SherdTable x = painted(new int[] {1, 2, 2, 2}, new int[] {3, 3, 4, 3});
        due("spans(0, 1)", x.spans(0, 1), 0);
        due("order()", x.order(), 0);
        due("groups()", x.groups(), 2);
        due("order() of an empty table", new SherdTable().order(), 0);
    }

    @Sentence(at = "Terms 4", says = "has one of its steps (its n pairs, of either side) in it and is as LONG or longer")
    static void terms4_oneAsLongOnTheSameStepOfA() {
        SherdTable x = painted(new int[] {1, 2, 2, 2}, new int[] {3, 1, 1, 3});
        due("spans(0, 1)", x.spans(0, 1), 2);
        due("order()", x.order(), 0);
    }

    @Sentence(at = "Terms 4", says = "has one of its steps (its n pairs, of either side) in it and is as LONG or longer")
    static void terms4_oneAsLongOnTheSameStepOfB() {
        SherdTable x = painted(new int[] {1, 2, 1, 2}, new int[] {3, 3, 1, 3});
        due("spans(0, 1)", x.spans(0, 1), 2);
        due("order()", x.order(), 0);
    }

    @Sentence(at = "Terms 4", says = "no other SPAN, of any two sherds")
    static void terms4_oneAsLongOfOtherSherds() {
        SherdTable x = painted(new int[] {1, 2, 2, 2}, new int[] {3, 3, 1, 3}, new int[] {4, 4, 1, 4});
        due("spans(0, 1)", x.spans(0, 1), 1);
        due("spans(0, 2)", x.spans(0, 2), 1);
        due("spans(1, 2)", x.spans(1, 2), 1);
        due("order()", x.order(), 0);
        yes("paint(2, 2, 4)", x.paint(2, 2, 4));
        due("order() without the third", x.order(), 1);
    }

    /** The same step is in the other SPAN with another turn: 2 long, at 518, one turn more or less. */
    @Sentence(at = "Terms 4", says = "has one of its steps (its n pairs, of either side) in it and is as LONG or longer")
    static void terms4_oneAsLongWithAnotherTurn() {
        SherdTable x = new SherdTable();
        oneBreak(x, 2, 0);
        oneBreak(x, 2, 2);
        yes("tell(0, 2)", x.tell(0, 2));
        due("spans(0, 1)", x.spans(0, 1), 3);
        due("order()", x.order(), 0);
    }

    /** Others are as LONG, but on other steps. */
    @Sentence(at = "Terms 4", says = "has one of its steps (its n pairs, of either side) in it and is as LONG or longer")
    static void terms4_oneAsLongOnOtherStepsDoesntHinder() {
        SherdTable x = painted(new int[] {1, 2, 6, 6}, new int[] {3, 3, 1, 3}, new int[] {2, 4, 4, 4});
        due("order()", x.order(), 2);
        joinIs(x, 0, 0, 0, 1, 2, 0);
        joinIs(x, 1, 0, 1, 2, 0, 18);
    }

    /**
     * Sherd 0 and 1 FIT by two pairs, 20 LONG: steps 0, 1 of 0 on 1, 0 of 1. Sherd 2 fits one of these
     * steps, 10 LONG, by the colour told.
     */
    private static SherdTable longAndShort(int colour) {
        SherdTable x = new SherdTable();
        square(x, 3, 10);
        backSquare(x, 3, 10);
        square(x, 3, 10);
        paintAll(x, 0, 1, 2, 3, 3);
        paintAll(x, 1, 2, 1, 4, 4);
        paintAll(x, 2, colour, 5, 5, 5);
        yes("tell(3, 1000)", x.tell(3, 1000));
        return x;
    }

    @Sentence(at = "Terms 4", says = "is as LONG or longer")
    static void terms4_aShorterOneDoesntHinder() {
        for (int colour = 1; colour < 3; colour++) {
            SherdTable x = longAndShort(colour);
            due("spans(0, 2)", x.spans(0, 2), 1);
            due("spans(1, 2)", x.spans(1, 2), 1);
            due("order()", x.order(), 1);
            joinIs(x, 0, 0, 0, 1, 1, 0, 2, 0, 0);
            due("group(2, 0)", x.group(2, 0), 1);
        }
    }

    /** The longer one is of NO ONE POT and can't be JOINED: it is a SPAN all the same, on the step of either pair. */
    @Sentence(at = "Terms 4", says = "is as LONG or longer")
    static void terms4_aLongerOneHindersThoughItCantBeJoined() {
        for (int colour = 1; colour < 3; colour++) {
            SherdTable x = longAndShort(colour);
            yes("thick(0, 1)", x.thick(0, bits(1)));
            yes("thick(1, 9)", x.thick(1, bits(9)));
            due("join of the longer one", x.join(0, 0, 1, 1, 0), -3);
            due("order()", x.order(), 0);
            due("groups()", x.groups(), 3);
        }
    }

    /** The third one FITS step 0 of 0 and, as LONG, no step of the longer SPAN but its second. */
    @Sentence(at = "Terms 4", says = "(its n pairs, of either side)")
    static void terms4_anotherAsLongOnJustTheLastPairHinders() {
        SherdTable x = new SherdTable();
        square(x, 3, 10);
        backSquare(x, 3, 10);
        backSquare(x, 3, 10);
        paintAll(x, 0, 1, 2, 3, 9);
        paintAll(x, 1, 2, 1, 4, 4);
        paintAll(x, 2, 2, 5, 5, 3);
        yes("tell(3, 1000)", x.tell(3, 1000));
        due("fit(0, 0, 1, 1, 0), steps 0 and 1", x.fit(0, 0, 1, 1, 0), 2);
        due("fit(0, 1, 2, 0, 0), steps 1 and 2", x.fit(0, 1, 2, 0, 0), 2);
        due("order(), both 20 LONG", x.order(), 0);
        yes("paint(2, 3, 5)", x.paint(2, 3, 5));
        due("order(), the other one 10 LONG", x.order(), 1);
        joinIs(x, 0, 0, 0, 1, 1, 0, 2);
    }

    /** The longer one, of two Bases, is refused by 3; the next one in order is joined. */
    @Sentence(at = "Terms 4", says = "SURE is a SPAN that could be JOINED")
    static void terms4_oneRefusedBy3IsNotSure() {
        SherdTable x = painted(new int[] {1, 6, 6, 6}, new int[] {3, 3, 1, 3}, new int[] {2, 4, 4, 4},
                new int[] {5, 2, 5, 5});
        thicks(x, 1, 9);
        due("order()", x.order(), 1);
        joinIs(x, 0, 2, 0, 3, 1, 6);
        due("groups()", x.groups(), 3);
    }

    @Sentence(at = "Terms 4", says = "SURE is a SPAN that could be JOINED")
    static void terms4_oneRefusedBy5IsNotSure() {
        SherdTable x = painted(new int[] {1, 6, 6, 6}, new int[] {3, 3, 1, 3}, new int[] {2, 4, 4, 4},
                new int[] {5, 2, 5, 5});
        due("hand(0, 1, 1, 3, 1)", x.hand(0, 1, 1, 3, 1), 0);
        due("order()", x.order(), 1);
        due("round()", x.round(), 10000);
        joinIs(x, 1, 2, 0, 3, 1, 6);
    }

    @Sentence(at = "Terms 4", says = "SURE is a SPAN that could be JOINED")
    static void terms4_oneRefusedBy6IsNotSure() {
        SherdTable x = longAndShort(5);
        square(x, 3, 10);
        paintAll(x, 3, 7, 7, 7, 5);
        yes("paint(2, 1, 6)", x.paint(2, 1, 6));
        yes("paint(2, 2, 6)", x.paint(2, 2, 6));
        yes("paint(2, 3, 6)", x.paint(2, 3, 6));
        yes("tell(3, 99)", x.tell(3, 99));
        due("order()", x.order(), 1);
        liesIs(x, 0, 1, 100);
        joinIs(x, 0, 2, 0, 3, 3, 18);
    }

    @Sentence(at = "Terms 4", says = "SURE is a SPAN that could be JOINED")
    static void terms4_whenThereAre40NothingIsSure() {
        SherdTable x = joinedByHand(40);
        oneBreak(x, 10, 0);
        oneBreak(x, 10, 2);
        due("spans(8, 9)", x.spans(8, 9), 1);
        due("order()", x.order(), 0);
        due("part(0)", x.part(0), 6);
    }

    @Sentence(at = "Terms 4", says = "SURE is a SPAN that could be JOINED")
    static void terms4_theFortiethIsJoined() {
        SherdTable x = joinedByHand(39);
        oneBreak(x, 10, 0);
        oneBreak(x, 10, 2);
        oneBreak(x, 12, 0);
        oneBreak(x, 12, 2);
        yes("tell(0, 10)", x.tell(0, 10));
        due("order(), two are SURE", x.order(), 1);
        joinIs(x, 39, 10, 0, 11, 2, 0);
        due("order() again", x.order(), 0);
        due("groups()", x.groups(), 7);
    }

    /** By unlike lengths: 12 on 12 is SURE, hinders 11 on 12, which hinders 10 on 11. */
    @Sentence(at = "Terms 4", says = "the first SURE one in the order of SPANS is JOINED, then what is SURE then, and so on")
    static void terms4_whatIsSureThen() {
        SherdTable x = new SherdTable();
        oneBreak(x, 12, 0);
        oneBreak(x, 12, 2);
        closed(x, 5, 0, 11, 11, 5, 13, 6);
        oneBreak(x, 10, 0);
        yes("tell(0, 9)", x.tell(0, 9));
        due("spans(0, 2)", x.spans(0, 2), 1);
        due("spans(1, 2)", x.spans(1, 2), 1);
        due("spans(2, 3)", x.spans(2, 3), 1);
        due("spans(0, 3)", x.spans(0, 3), 0);
        due("order()", x.order(), 2);
        joinIs(x, 0, 0, 0, 1, 2, 0);
        joinIs(x, 1, 2, 0, 3, 0, 12);
    }

    @Sentence(at = "Terms 4", says = "the first SURE one in the order of SPANS is JOINED")
    static void terms4_theGreaterLongIsJoinedFirst() {
        SherdTable x = new SherdTable();
        oneBreak(x, 10, 0);
        oneBreak(x, 10, 2);
        oneBreak(x, 12, 0);
        oneBreak(x, 12, 2);
        due("order()", x.order(), 2);
        joinIs(x, 0, 2, 0, 3, 2, 0);
        joinIs(x, 1, 0, 0, 1, 2, 0);
    }

    /** Both 8 LONG; 0 and 1 are bent by one turn at their second pair, 518 apart. */
    @Sentence(at = "Terms 4", says = "the first SURE one in the order of SPANS is JOINED")
    static void terms4_thenTheLesserMiss() {
        SherdTable x = new SherdTable();
        closed(x, 3, 0, 6, 6, 2, 12, 6, 18, 2);
        closed(x, 3, 19, 2, 12, 6, 6, 2, 0, 6);
        closed(x, 3, 0, 6, 6, 2, 12, 6, 18, 2);
        closed(x, 3, 18, 2, 12, 6, 6, 2, 0, 6);
        paintAll(x, 0, 1, 2, 3, 3);
        paintAll(x, 1, 2, 1, 4, 4);
        paintAll(x, 2, 5, 6, 7, 7);
        paintAll(x, 3, 6, 5, 8, 8);
        yes("tell(3, 1000)", x.tell(3, 1000));
        due("spans(0, 1)", x.spans(0, 1), 1);
        spanIs(x, 0, 0, 1, 0, 2, 8, 518);
        due("order()", x.order(), 2);
        joinIs(x, 0, 2, 0, 3, 1, 0, 2);
        joinIs(x, 1, 0, 0, 1, 1, 0, 2);
    }

    @Sentence(at = "Terms 4", says = "the first SURE one in the order of SPANS is JOINED")
    static void terms4_thenTheLesserAAheadOfB() {
        SherdTable x = painted(new int[] {5, 5, 5, 1}, new int[] {2, 6, 6, 6}, new int[] {7, 2, 7, 7},
                new int[] {8, 1, 8, 8});
        due("order()", x.order(), 2);
        joinIs(x, 0, 0, 3, 3, 1, 0);
        joinIs(x, 1, 1, 0, 2, 1, 6);
    }

    @Sentence(at = "Terms 4", says = "the first SURE one in the order of SPANS is JOINED")
    static void terms4_thenTheLesserBAheadOfI() {
        SherdTable x = painted(new int[] {2, 1, 5, 5}, new int[] {1, 6, 6, 6}, new int[] {7, 7, 2, 7});
        due("order()", x.order(), 2);
        joinIs(x, 0, 0, 1, 1, 0, 18);
        joinIs(x, 1, 0, 0, 2, 2, 0);
    }

    /** Of the same two sherds: the second comes round and is refused. */
    @Sentence(at = "Terms 4", says = "the first SURE one in the order of SPANS is JOINED")
    static void terms4_thenTheLesserIAheadOfJ() {
        SherdTable x = painted(new int[] {5, 2, 1, 5}, new int[] {6, 1, 2, 6});
        due("spans(0, 1)", x.spans(0, 1), 2);
        due("order()", x.order(), 1);
        joinIs(x, 0, 0, 1, 1, 2, 6);
        due("round()", x.round(), 1000000000);
    }

    /** None is joined when none is SURE, and calls that come later find all as it was. */
    @Sentence(at = "Terms 4", says = "and so on")
    static void terms4_orderThatJoinsNothingChangesNothing() {
        SherdTable x = squares(2);
        String before = everything(x);
        due("order()", x.order(), 0);
        unchanged(before, x);
    }

    /** Steps that are JOINED by hand are in no SPAN, so they hinder no longer. */
    @Sentence(at = "Terms 4", says = "no other SPAN")
    static void terms4_stepsInJoinsHinderNothing() {
        SherdTable x = painted(new int[] {1, 2, 2, 2}, new int[] {3, 1, 1, 3}, new int[] {4, 4, 4, 4});
        due("order()", x.order(), 0);
        due("hand(1, 1, 2, 0, 1)", x.hand(1, 1, 2, 0, 1), 0);
        due("order()", x.order(), 1);
        joinIs(x, 1, 0, 0, 1, 2, 0);
    }

    @Sentence(at = "Terms 4", says = "no other SPAN, of any two sherds")
    static void terms4_anOpenSherdHasNoSpans() {
        SherdTable x = painted(new int[] {1, 2, 2, 2}, new int[] {3, 3, 1, 3});
        open(x, 3, 0, 10, 6, 10, 12, 10, 18, 10);
        paintAll(x, 2, 1, 1, 1, 1);
        due("order()", x.order(), 1);
        joinIs(x, 0, 0, 0, 1, 2, 0);
    }
}
