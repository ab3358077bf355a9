/** Each sentence of promises 1 to 14 that names a boundary case. */
public final class FirstPromisesSentencesTest extends Bench {
    public static void main(String[] args) {
        Sentences.runAllOf(FirstPromisesSentencesTest.class);
        end();
    }

    @Sentence(at = "Promise 1", says = "An empty table.")
    static void promise01_nothingIsThere() {
        SherdTable x = new SherdTable();
        due("groups()", x.groups(), 0);
        due("look(0, 0)", look(x, 0, 0), OUTSIDE);
        due("edge(0, 0, 0)", edge(x, 0, 0, 0), OUTSIDE);
        due("close(0)", x.close(0), -1);
        due("joined(0, 0)", x.joined(0, 0), -1);
        due("part(0)", x.part(0), -1);
        due("order()", x.order(), 0);
        due("undo(0)", x.undo(0), 0);
        due("undo(1)", x.undo(1), -1);
    }

    @Sentence(at = "Promise 1", says = "An empty table.")
    static void promise01_twoTablesShareNothing() {
        SherdTable x = new SherdTable();
        SherdTable y = squares(2);
        due("hand(0, 0, 1, 2, 1)", y.hand(0, 0, 1, 2, 1), 0);
        yes("tell(0, 1)", y.tell(0, 1));
        due("groups() of the other one", x.groups(), 0);
        square(x, 0, 5);
        square(x, 0, 5);
        due("edge(0, 0, 4)", edge(x, 0, 0, 4), -1);
        due("spans(0, 1), LEAST is 6", x.spans(0, 1), 0);
    }

    @Sentence(at = "The public face", says = "public static final int NONE = -1;")
    static void face_noneIsMinus1() {
        due("NONE", SherdTable.NONE, -1);
    }

    @Sentence(at = "Promise 2", says = "A sherd of a KIND comes, its EDGE empty and OPEN: its number")
    static void promise02_itsEdgeIsEmptyAndOpen() {
        SherdTable x = new SherdTable();
        for (int kind = 0; kind < 6; kind++) {
            due("sherd(" + kind + ")", x.sherd(kind), kind);
            due("look(" + kind + ", 1)", look(x, kind, 1), 0);
            due("look(" + kind + ", 2)", look(x, kind, 2), 0);
            due("edge(" + kind + ", 0, 0)", edge(x, kind, 0, 0), OUTSIDE);
            due("groups()", x.groups(), kind + 1);
        }
    }

    @Sentence(at = "Promise 2", says = "NONE: no such KIND")
    static void promise02_noSuchKind() {
        SherdTable x = new SherdTable();
        for (int bad : new int[] {-1, 6, MIN, MAX}) {
            due("sherd(" + bad + ")", x.sherd(bad), -1);
        }
        due("groups()", x.groups(), 0);
        due("sherd(5), the first one", x.sherd(5), 0);
    }

    @Sentence(at = "Promise 2", says = "or there are 12")
    static void promise02_thereAreTwelve() {
        SherdTable x = new SherdTable();
        for (int k = 0; k < 12; k++) {
            due("sherd", x.sherd(k % 6), k);
        }
        due("sherd(0)", x.sherd(0), -1);
        due("sherd(9)", x.sherd(9), -1);
        due("groups()", x.groups(), 12);
        due("look(11, 0)", look(x, 11, 0), 5);
        due("look(12, 0)", look(x, 12, 0), OUTSIDE);
    }

    @Sentence(at = "Promise 3", says = "A step more of an OPEN EDGE: how many")
    static void promise03_howMany() {
        SherdTable x = new SherdTable();
        x.sherd(0);
        x.sherd(0);
        for (int k = 1; k <= 20; k++) {
            due("step " + k, x.step(1, 23, 12), k);
        }
        due("look(0, 1)", look(x, 0, 1), 0);
        due("look(1, 1)", look(x, 1, 1), 20);
    }

    @Sentence(at = "Promise 3", says = "NONE: no such sherd, DIRECTION, LENGTH")
    static void promise03_noSuchSherd() {
        SherdTable x = new SherdTable();
        x.sherd(0);
        for (int bad : new int[] {-1, 1, 12, MIN, MAX}) {
            due("step(" + bad + ", 0, 1)", x.step(bad, 0, 1), -1);
        }
        due("look(0, 1)", look(x, 0, 1), 0);
    }

    @Sentence(at = "Promise 3", says = "NONE: no such sherd, DIRECTION, LENGTH")
    static void promise03_noSuchDirectionOrLength() {
        SherdTable x = new SherdTable();
        x.sherd(0);
        for (int bad : new int[] {-1, 24, MIN, MAX}) {
            due("step(0, " + bad + ", 5)", x.step(0, bad, 5), -1);
        }
        for (int bad : new int[] {0, 13, -1, MIN, MAX}) {
            due("step(0, 5, " + bad + ")", x.step(0, 5, bad), -1);
        }
        due("step(0, 5, 5)", x.step(0, 5, 5), 1);
    }

    @Sentence(at = "Promise 3", says = "it is closed")
    static void promise03_itIsClosed() {
        SherdTable x = squares(1);
        due("step(0, 0, 1)", x.step(0, 0, 1), -1);
        due("look(0, 1)", look(x, 0, 1), 4);
    }

    @Sentence(at = "Promise 3", says = "or has 20")
    static void promise03_itHasTwenty() {
        SherdTable x = new SherdTable();
        x.sherd(0);
        for (int k = 0; k < 20; k++) {
            x.step(0, k, 1);
        }
        due("the twenty-first step", x.step(0, 0, 1), -1);
        due("look(0, 1)", look(x, 0, 1), 20);
        due("edge(0, 19, 0)", edge(x, 0, 19, 0), 19);
    }

    @Sentence(at = "Promise 4", says = "An OPEN EDGE is closed: 0")
    static void promise04_closedWithoutAndWithAGap() {
        SherdTable x = new SherdTable();
        square(x, 0, 12);
        closed(x, 0, 0, 1, 0, 1, 18, 2);
        due("look(0, 2)", look(x, 0, 2), 1);
        due("look(1, 2)", look(x, 1, 2), 1);
    }

    @Sentence(at = "Promise 4", says = "NONE: no such sherd")
    static void promise04_noSuchSherd() {
        SherdTable x = squares(1);
        for (int bad : new int[] {-1, 1, 12, MIN, MAX}) {
            due("close(" + bad + ")", x.close(bad), -1);
        }
    }

    @Sentence(at = "Promise 4", says = "it is closed")
    static void promise04_itIsClosed() {
        SherdTable x = squares(1);
        due("close(0)", x.close(0), -1);
        due("look(0, 2)", look(x, 0, 2), 1);
    }

    /** Also if it misses by more than GAP: fewer than 3 is told first. */
    @Sentence(at = "Promise 4", says = "or has fewer than 3 steps")
    static void promise04_fewerThanThreeSteps() {
        SherdTable x = new SherdTable();
        x.sherd(0);
        due("close with no step", x.close(0), -1);
        x.step(0, 0, 12);
        due("close with one step", x.close(0), -1);
        x.step(0, 0, 12);
        due("close with two steps", x.close(0), -1);
        x.step(0, 0, 12);
        due("close with three steps", x.close(0), 36000);
    }

    @Sentence(at = "Promise 4", says = "else by how much it misses, the greater one in X or Y, if that is above GAP (it stays OPEN)")
    static void promise04_byHowMuchItMisses() {
        SherdTable x = new SherdTable();
        open(x, 0, 0, 3, 6, 1, 6, 1);
        due("close, 3000 in X and 2000 in Y", x.close(0), 3000);
        open(x, 0, 12, 2, 18, 4, 18, 3);
        due("close, -2000 in X and -7000 in Y", x.close(1), 7000);
        open(x, 0, 0, 9, 9, 5, 14, 4);
        due("close, one more than GAP", x.close(2), 2001);
        due("look(2, 2)", look(x, 2, 2), 0);
        due("step(2, 12, 2), it stays open", x.step(2, 12, 2), 4);
        due("close(2)", x.close(2), 0);
    }

    @Sentence(at = "Promise 5", says = "A step of a Rim, a Handle is marked, or not: true")
    static void promise05_theFirstAndTheLastStep() {
        SherdTable x = new SherdTable();
        square(x, 1, 10);
        square(x, 4, 10);
        for (int s = 0; s < 2; s++) {
            yes("mark(" + s + ", 0, true)", x.mark(s, 0, true));
            yes("mark(" + s + ", 3, true)", x.mark(s, 3, true));
            yes("mark(" + s + ", 3, true) again", x.mark(s, 3, true));
            yes("mark(" + s + ", 3, false)", x.mark(s, 3, false));
            yes("mark(" + s + ", 3, false) again", x.mark(s, 3, false));
            due("edge(" + s + ", 0, 2)", edge(x, s, 0, 2), s);
            due("edge(" + s + ", 3, 2)", edge(x, s, 3, 2), 1 - s);
        }
    }

    @Sentence(at = "Promise 5", says = "A step of a Rim, a Handle is marked, or not: true")
    static void promise05_alsoOfAnOpenEdge() {
        SherdTable x = new SherdTable();
        open(x, 1, 0, 10);
        yes("mark(0, 0, true)", x.mark(0, 0, true));
        no("mark(0, 1, true), a step to come", x.mark(0, 1, true));
        due("step(0, 6, 10)", x.step(0, 6, 10), 2);
        due("edge(0, 0, 2)", edge(x, 0, 0, 2), 0);
        due("edge(0, 1, 2)", edge(x, 0, 1, 2), 1);
    }

    @Sentence(at = "Promise 5", says = "false: no such sherd, step")
    static void promise05_noSuchSherdOrStep() {
        SherdTable x = new SherdTable();
        no("mark(0, 0, true) of an empty table", x.mark(0, 0, true));
        square(x, 1, 10);
        x.sherd(1);
        for (int bad : new int[] {-1, 2, 12, MIN, MAX}) {
            no("mark(" + bad + ", 0, true)", x.mark(bad, 0, true));
        }
        for (int bad : new int[] {-1, 4, 20, MIN, MAX}) {
            no("mark(0, " + bad + ", true)", x.mark(0, bad, true));
        }
        no("mark(1, 0, true) of an empty edge", x.mark(1, 0, true));
    }

    @Sentence(at = "Promise 5", says = "another KIND")
    static void promise05_anotherKind() {
        for (int kind : new int[] {0, 2, 3, 5}) {
            SherdTable x = new SherdTable();
            square(x, kind, 10);
            no("mark of KIND " + kind, x.mark(0, 0, true));
            no("mark of KIND " + kind, x.mark(0, 0, false));
            due("edge(0, 0, 2)", edge(x, 0, 0, 2), 1);
        }
    }

    @Sentence(at = "Promise 5", says = "or the step is in a JOIN")
    static void promise05_theStepIsInAJoin() {
        SherdTable x = new SherdTable();
        square(x, 1, 10);
        square(x, 4, 10);
        due("hand(0, 3, 1, 0, 2)", x.hand(0, 3, 1, 0, 2), 0);
        String before = everything(x);
        for (int step : new int[] {3, 0}) {
            no("mark(0, " + step + ", true)", x.mark(0, step, true));
            no("mark(0, " + step + ", false)", x.mark(0, step, false));
            no("mark(1, " + step + ", true)", x.mark(1, step, true));
        }
        unchanged(before, x);
        yes("mark(0, 1, true), beside it", x.mark(0, 1, true));
        yes("mark(1, 1, true), beside it", x.mark(1, 1, true));
        due("part(0)", x.part(0), 2);
        yes("mark(0, 3, true), it is gone", x.mark(0, 3, true));
        yes("mark(1, 3, true), it is gone", x.mark(1, 3, true));
    }

    @Sentence(at = "Promise 6", says = "The COLOUR of a step of a Painted one: true")
    static void promise06_theFirstAndTheLastStep() {
        SherdTable x = new SherdTable();
        square(x, 3, 10);
        square(x, 4, 10);
        open(x, 3, 0, 10);
        yes("paint(0, 0, 0)", x.paint(0, 0, 0));
        yes("paint(0, 3, 9)", x.paint(0, 3, 9));
        yes("paint(1, 3, 9)", x.paint(1, 3, 9));
        yes("paint(2, 0, 7) of an open one", x.paint(2, 0, 7));
        due("edge(0, 3, 3)", edge(x, 0, 3, 3), 9);
        due("edge(1, 3, 3)", edge(x, 1, 3, 3), 9);
        due("edge(2, 0, 3)", edge(x, 2, 0, 3), 7);
        due("edge(0, 2, 3)", edge(x, 0, 2, 3), 0);
    }

    @Sentence(at = "Promise 6", says = "false: no such sherd, step, COLOUR")
    static void promise06_noSuchSherdStepOrColour() {
        SherdTable x = new SherdTable();
        no("paint(0, 0, 1) of an empty table", x.paint(0, 0, 1));
        square(x, 3, 10);
        for (int bad : new int[] {-1, 1, 12, MIN, MAX}) {
            no("paint(" + bad + ", 0, 1)", x.paint(bad, 0, 1));
        }
        for (int bad : new int[] {-1, 4, 20, MIN, MAX}) {
            no("paint(0, " + bad + ", 1)", x.paint(0, bad, 1));
        }
        for (int bad : new int[] {-1, 10, MIN, MAX}) {
            no("paint(0, 0, " + bad + ")", x.paint(0, 0, bad));
        }
        due("edge(0, 0, 3)", edge(x, 0, 0, 3), 0);
    }

    @Sentence(at = "Promise 6", says = "another KIND")
    static void promise06_anotherKind() {
        for (int kind : new int[] {0, 1, 2, 5}) {
            SherdTable x = new SherdTable();
            square(x, kind, 10);
            no("paint of KIND " + kind, x.paint(0, 0, 1));
            no("paint of KIND " + kind, x.paint(0, 0, 0));
            due("edge(0, 0, 3)", edge(x, 0, 0, 3), 0);
        }
    }

    @Sentence(at = "Promise 6", says = "or the step is in a JOIN")
    static void promise06_theStepIsInAJoin() {
        SherdTable x = new SherdTable();
        square(x, 3, 10);
        square(x, 3, 10);
        due("hand(0, 3, 1, 0, 2)", x.hand(0, 3, 1, 0, 2), 0);
        String before = everything(x);
        for (int step : new int[] {3, 0}) {
            no("paint(0, " + step + ", 1)", x.paint(0, step, 1));
            no("paint(1, " + step + ", 0)", x.paint(1, step, 0));
        }
        unchanged(before, x);
        yes("paint(0, 1, 1), beside it", x.paint(0, 1, 1));
        due("undo(1)", x.undo(1), 0);
        yes("paint(0, 0, 1), it is gone", x.paint(0, 0, 1));
        yes("paint(1, 3, 1), it is gone", x.paint(1, 3, 1));
    }

    @Sentence(at = "Promise 7", says = "The THICKNESS by a float's bits: true")
    static void promise07_ofAnyKindOpenOrClosed() {
        SherdTable x = new SherdTable();
        for (int kind = 0; kind < 6; kind++) {
            x.sherd(kind);
            yes("thick of KIND " + kind, x.thick(kind, bits(kind)));
            due("look(" + kind + ", 3)", look(x, kind, 3), 10 * kind);
        }
        square(x, 0, 10);
        yes("thick of a closed one", x.thick(6, bits(1000)));
        due("look(6, 3)", look(x, 6, 3), 10000);
    }

    @Sentence(at = "Promise 7", says = "false: no such sherd")
    static void promise07_noSuchSherd() {
        SherdTable x = new SherdTable();
        x.sherd(0);
        for (int bad : new int[] {-1, 1, 12, MIN, MAX}) {
            no("thick(" + bad + ", 0)", x.thick(bad, 0));
            no("thick(" + bad + ", no number)", x.thick(bad, NO_NUMBER));
        }
        due("look(0, 3)", look(x, 0, 3), -1);
    }

    @Sentence(at = "Promise 7", says = "or it can't be")
    static void promise07_itCantBe() {
        SherdTable x = new SherdTable();
        x.sherd(0);
        for (float bad : new float[] {-Float.MIN_VALUE, -1, Math.nextUp(1000f), Float.NEGATIVE_INFINITY,
            Float.POSITIVE_INFINITY}) {
            no("thick by " + bad, x.thick(0, bits(bad)));
            due("look(0, 3)", look(x, 0, 3), -1);
        }
    }

    @Sentence(at = "Promise 7", says = "it is in a GROUP with others")
    static void promise07_itIsInAGroupWithOthers() {
        SherdTable x = squares(4);
        thicks(x, 1, 1, 1);
        due("hand(0, 0, 1, 2, 1)", x.hand(0, 0, 1, 2, 1), 0);
        due("hand(1, 0, 2, 2, 1)", x.hand(1, 0, 2, 2, 1), 1);
        for (int s = 0; s < 3; s++) {
            no("thick(" + s + ", 2)", x.thick(s, bits(2)));
            no("thick(" + s + ", no number)", x.thick(s, NO_NUMBER));
            due("look(" + s + ", 3)", look(x, s, 3), 10);
        }
        yes("thick(3, 2), in a GROUP alone", x.thick(3, bits(2)));
        due("part(1)", x.part(1), 3);
        no("thick(0, 2)", x.thick(0, bits(2)));
        yes("thick(2, 2), alone again", x.thick(2, bits(2)));
    }

    @Sentence(at = "Promise 8", says = "The CIRCLE of a Rim: true")
    static void promise08_ofARim() {
        SherdTable x = new SherdTable();
        x.sherd(1);
        square(x, 1, 10);
        yes("circle(0, 1)", x.circle(0, 1));
        yes("circle(1, 200)", x.circle(1, 200));
        due("look(0, 4)", look(x, 0, 4), 1);
        due("look(1, 4)", look(x, 1, 4), 200);
    }

    @Sentence(at = "Promise 8", says = "false: no such sherd, CIRCLE")
    static void promise08_noSuchSherdOrCircle() {
        SherdTable x = new SherdTable();
        x.sherd(1);
        yes("circle(0, 7)", x.circle(0, 7));
        for (int bad : new int[] {-1, 1, 12, MIN, MAX}) {
            no("circle(" + bad + ", 9)", x.circle(bad, 9));
        }
        for (int bad : new int[] {0, 201, -1, MIN, MAX}) {
            no("circle(0, " + bad + ")", x.circle(0, bad));
        }
        due("look(0, 4)", look(x, 0, 4), 7);
    }

    @Sentence(at = "Promise 8", says = "another KIND")
    static void promise08_anotherKind() {
        SherdTable x = new SherdTable();
        for (int kind : new int[] {0, 2, 3, 4, 5}) {
            int s = x.sherd(kind);
            no("circle of KIND " + kind, x.circle(s, 9));
            due("look(" + s + ", 4)", look(x, s, 4), -1);
        }
    }

    @Sentence(at = "Promise 8", says = "or it is in a GROUP with others")
    static void promise08_itIsInAGroupWithOthers() {
        SherdTable x = new SherdTable();
        square(x, 1, 10);
        square(x, 0, 10);
        square(x, 1, 10);
        yes("circle(0, 9)", x.circle(0, 9));
        due("hand(0, 0, 1, 2, 1)", x.hand(0, 0, 1, 2, 1), 0);
        no("circle(0, 10)", x.circle(0, 10));
        no("circle(0, 9), the same", x.circle(0, 9));
        yes("circle(2, 10), in a GROUP alone", x.circle(2, 10));
        due("look(0, 4)", look(x, 0, 4), 9);
        due("undo(1)", x.undo(1), 0);
        yes("circle(0, 10), alone again", x.circle(0, 10));
    }

    private static void tellTakes(int what, int least, int most) {
        SherdTable x = new SherdTable();
        yes("tell(" + what + ", " + least + ")", x.tell(what, least));
        yes("tell(" + what + ", " + most + ")", x.tell(what, most));
        for (int bad : new int[] {least - 1, most + 1, MIN, MAX}) {
            no("tell(" + what + ", " + bad + ")", x.tell(what, bad));
        }
    }

    @Sentence(at = "Promise 9", says = "What 0: LEAST (1 .. 100)")
    static void promise09_least() {
        tellTakes(0, 1, 100);
        SherdTable x = squares(2);
        yes("tell(0, 10)", x.tell(0, 10));
        due("spans(0, 1) with LEAST 10", x.spans(0, 1), 16);
        yes("tell(0, 11)", x.tell(0, 11));
        due("spans(0, 1) with LEAST 11", x.spans(0, 1), 0);
        no("tell(0, 0)", x.tell(0, 0));
        no("tell(0, 101)", x.tell(0, 101));
        due("spans(0, 1), it stays", x.spans(0, 1), 0);
    }

    @Sentence(at = "Promise 9", says = "What 0: LEAST (1 .. 100)")
    static void promise09_leastFrom1To100() {
        SherdTable x = new SherdTable();
        square(x, 0, 1);
        square(x, 0, 1);
        yes("tell(0, 1)", x.tell(0, 1));
        due("join(0, 0, 1, 2, 0), 1 LONG", x.join(0, 0, 1, 2, 0), 0);
        due("join, 100 LONG, with LEAST 100", forthAndBack(4).join(0, 0, 1, 8, 0), 0);
        due("join, 99 LONG, with LEAST 100", forthAndBack(3).join(0, 0, 1, 8, 0), -2);
    }

    /** Nine steps that FIT, eight of 12 and the last one as told, and one that is no BREAK; LEAST is 100. */
    private static SherdTable forthAndBack(int last) {
        SherdTable x = new SherdTable();
        closed(x, 1, 0, 12, 12, 12, 0, 12, 12, 12, 0, 12, 12, 12, 0, 12, 12, 12, 0, last, 12, last);
        closed(x, 1, 12, last, 0, 12, 12, 12, 0, 12, 12, 12, 0, 12, 12, 12, 0, 12, 12, 12, 0, last);
        yes("mark(0, 9, true)", x.mark(0, 9, true));
        yes("mark(1, 9, true)", x.mark(1, 9, true));
        yes("tell(0, 100)", x.tell(0, 100));
        due("fit(0, 0, 1, 8, 0)", x.fit(0, 0, 1, 8, 0), 9);
        due("fitted(0)", x.fitted(0), 96 + last);
        return x;
    }

    @Sentence(at = "Promise 9", says = "1: THICK (0 .. 10000)")
    static void promise09_thick() {
        tellTakes(1, 0, 10000);
        SherdTable x = new SherdTable();
        x.sherd(0);
        x.sherd(0);
        thicks(x, 0, 1000);
        yes("tell(1, 9999)", x.tell(1, 9999));
        due("two(0, 1)", x.two(0, 1), 1);
        yes("tell(1, 10000)", x.tell(1, 10000));
        due("two(0, 1)", x.two(0, 1), 0);
        yes("tell(1, 0)", x.tell(1, 0));
        thicks(x, 5, 5);
        due("two(0, 1), the same", x.two(0, 1), 0);
        thicks(x, 5, 5.125);
        due("two(0, 1), one tenth apart", x.two(0, 1), 1);
        no("tell(1, -1)", x.tell(1, -1));
        no("tell(1, 10001)", x.tell(1, 10001));
        due("two(0, 1), it stays", x.two(0, 1), 1);
    }

    @Sentence(at = "Promise 9", says = "2: ROUND (0 .. 100000)")
    static void promise09_round() {
        tellTakes(2, 0, 100000);
        SherdTable x = squares(2);
        due("hand(0, 0, 1, 2, 1)", x.hand(0, 0, 1, 2, 1), 0);
        yes("tell(2, 9999)", x.tell(2, 9999));
        due("join(0, 1, 1, 3, 0)", x.join(0, 1, 1, 3, 0), -5);
        no("tell(2, 100001)", x.tell(2, 100001));
        no("tell(2, -1)", x.tell(2, -1));
        due("join(0, 1, 1, 3, 0), it stays", x.join(0, 1, 1, 3, 0), -5);
        yes("tell(2, 10000)", x.tell(2, 10000));
        due("join(0, 1, 1, 3, 0)", x.join(0, 1, 1, 3, 0), 1);
    }

    @Sentence(at = "Promise 9", says = "3: SHARE (0 .. 1000)")
    static void promise09_share() {
        tellTakes(3, 0, 1000);
        SherdTable x = new SherdTable();
        square(x, 0, 10);
        backSquare(x, 0, 10);
        yes("tell(3, 99)", x.tell(3, 99));
        due("join(0, 0, 1, 1, 0)", x.join(0, 0, 1, 1, 0), -6);
        no("tell(3, 1001)", x.tell(3, 1001));
        no("tell(3, -1)", x.tell(3, -1));
        due("join(0, 0, 1, 1, 0), it stays", x.join(0, 0, 1, 1, 0), -6);
        yes("tell(3, 100)", x.tell(3, 100));
        due("join(0, 0, 1, 1, 0)", x.join(0, 0, 1, 1, 0), 0);
    }

    @Sentence(at = "Promise 9", says = "3: SHARE (0 .. 1000)")
    static void promise09_share0() {
        SherdTable x = new SherdTable();
        square(x, 0, 1);
        backSquare(x, 0, 1);
        yes("tell(0, 1)", x.tell(0, 1));
        yes("tell(3, 0)", x.tell(3, 0));
        due("join, one point", x.join(0, 0, 1, 1, 0), -6);
        SherdTable y = squares(2);
        yes("tell(3, 0)", y.tell(3, 0));
        due("join, no point", y.join(0, 0, 1, 2, 0), 0);
    }

    @Sentence(at = "Promise 9", says = "is v from now on (JOINS stay): true")
    static void promise09_joinsStay() {
        SherdTable x = squares(3);
        thicks(x, 1, 2);
        due("join(0, 0, 1, 2, 0)", x.join(0, 0, 1, 2, 0), 0);
        yes("tell(0, 100)", x.tell(0, 100));
        yes("tell(1, 0)", x.tell(1, 0));
        yes("tell(2, 0)", x.tell(2, 0));
        yes("tell(3, 0)", x.tell(3, 0));
        joinIs(x, 0, 0, 0, 1, 2, 0, 1, 0, 0);
        due("groups()", x.groups(), 2);
        due("two(0, 1)", x.two(0, 1), 1);
    }

    @Sentence(at = "Promise 9", says = "false for others")
    static void promise09_others() {
        SherdTable x = new SherdTable();
        for (int bad : new int[] {-1, 4, MIN, MAX}) {
            no("tell(" + bad + ", 1)", x.tell(bad, 1));
        }
    }

    @Sentence(at = "Promise 10", says = "3: THICKNESS (NONE if it isn't measured), 4: CIRCLE (NONE)")
    static void promise10_noneOfWhatIsNotTold() {
        SherdTable x = new SherdTable();
        x.sherd(1);
        due("look(0, 3)", look(x, 0, 3), -1);
        due("look(0, 4)", look(x, 0, 4), -1);
        yes("thick(0, 0)", x.thick(0, 0));
        due("look(0, 3) of 0", look(x, 0, 3), 0);
    }

    @Sentence(at = "Promise 10", says = "2: whether it is closed (1, 0)")
    static void promise10_closedOrNot() {
        SherdTable x = new SherdTable();
        open(x, 0, 0, 1, 8, 1, 16, 1);
        due("look(0, 1)", look(x, 0, 1), 3);
        due("look(0, 2)", look(x, 0, 2), 0);
        due("close(0)", x.close(0), 0);
        due("look(0, 2)", look(x, 0, 2), 1);
    }

    @Sentence(at = "Promise 10", says = "5: its GROUP, 6: how it is turned in it, 7, 8: where its beginning is, X and Y")
    static void promise10_ofOneAloneAndOfOneJoined() {
        SherdTable x = squares(3);
        due("look(2, 5)", look(x, 2, 5), 2);
        where(x, 2, 0, 0, 0);
        due("hand(1, 0, 2, 0, 1)", x.hand(1, 0, 2, 0, 1), 0);
        due("look(2, 5)", look(x, 2, 5), 1);
        where(x, 2, 12, 10000, 0);
        due("undo(1)", x.undo(1), 0);
        due("look(2, 5)", look(x, 2, 5), 2);
        where(x, 2, 0, 0, 0);
    }

    @Sentence(at = "Promise 10", says = "9: how many of its steps are in JOINS")
    static void promise10_stepsInJoins() {
        SherdTable x = squares(3);
        due("look(0, 9)", look(x, 0, 9), 0);
        due("hand(0, 3, 1, 0, 3)", x.hand(0, 3, 1, 0, 3), 0);
        due("look(0, 9)", look(x, 0, 9), 3);
        due("look(1, 9)", look(x, 1, 9), 3);
        due("hand(0, 2, 2, 0, 1)", x.hand(0, 2, 2, 0, 1), 1);
        due("look(0, 9), all of them", look(x, 0, 9), 4);
        due("look(2, 9)", look(x, 2, 9), 1);
        due("part(0)", x.part(0), 2);
        due("look(0, 9)", look(x, 0, 9), 1);
        due("look(1, 9)", look(x, 1, 9), 0);
    }

    @Sentence(at = "Promise 10", says = "IndexOutOfBoundsException: no such sherd.")
    static void promise10_noSuchSherd() {
        SherdTable x = new SherdTable();
        due("look(0, 0) of an empty table", look(x, 0, 0), OUTSIDE);
        x.sherd(0);
        for (int bad : new int[] {-1, 1, 12, MIN, MAX}) {
            due("look(" + bad + ", 0)", look(x, bad, 0), OUTSIDE);
        }
    }

    @Sentence(at = "Promise 10", says = "NoSuchElementException: no such what.")
    static void promise10_noSuchWhat() {
        SherdTable x = squares(1);
        for (int bad : new int[] {-1, 10, MIN, MAX}) {
            due("look(0, " + bad + ")", look(x, 0, bad), NO_ELEMENT);
        }
        due("look(0, 9)", look(x, 0, 9), 0);
    }

    /** The document names no such sherd first. */
    @Sentence(at = "Promise 10", says = "IndexOutOfBoundsException: no such sherd. NoSuchElementException: no such what.")
    static void promise10_noSuchSherdAheadOfNoSuchWhat() {
        SherdTable x = squares(1);
        due("look(1, 10)", look(x, 1, 10), OUTSIDE);
        due("look(-1, -1)", look(x, -1, -1), OUTSIDE);
    }

    @Sentence(at = "Promise 11", says = "Of a step, what 0: DIRECTION, 1: LENGTH, 2: whether it is a BREAK")
    static void promise11_theFirstAndTheLastStep() {
        SherdTable x = new SherdTable();
        closed(x, 4, 23, 12, 11, 11, 5, 1);
        yes("mark(0, 2, true)", x.mark(0, 2, true));
        long[][] want = {{23, 12, 0}, {11, 11, 0}, {5, 1, 1}};
        for (int k = 0; k < 3; k++) {
            for (int what = 0; what < 3; what++) {
                due("edge(0, " + k + ", " + what + ")", edge(x, 0, k, what), want[k][what]);
            }
        }
    }

    @Sentence(at = "Promise 11", says = "3: its COLOUR (0 of one that doesn't SHOW)")
    static void promise11_colour0OfOneThatDoesntShow() {
        for (int kind = 0; kind < 6; kind++) {
            SherdTable x = new SherdTable();
            square(x, kind, 10);
            x.paint(0, 0, 8);
            due("edge(0, 0, 3) of KIND " + kind, edge(x, 0, 0, 3), kind == 3 || kind == 4 ? 8 : 0);
        }
    }

    @Sentence(at = "Promise 11", says = "4: its JOIN (NONE)")
    static void promise11_itsJoin() {
        SherdTable x = squares(3);
        due("edge(0, 0, 4)", edge(x, 0, 0, 4), -1);
        due("hand(0, 0, 1, 2, 1)", x.hand(0, 0, 1, 2, 1), 0);
        due("hand(0, 3, 2, 0, 1)", x.hand(0, 3, 2, 0, 1), 1);
        due("edge(0, 0, 4)", edge(x, 0, 0, 4), 0);
        due("edge(0, 3, 4)", edge(x, 0, 3, 4), 1);
        due("edge(2, 0, 4)", edge(x, 2, 0, 4), 1);
        due("edge(0, 1, 4)", edge(x, 0, 1, 4), -1);
        due("part(0)", x.part(0), 2);
        due("edge(0, 0, 4)", edge(x, 0, 0, 4), -1);
        due("edge(1, 2, 4)", edge(x, 1, 2, 4), -1);
        due("edge(0, 3, 4)", edge(x, 0, 3, 4), 1);
    }

    @Sentence(at = "Promise 11", says = "Exceptions likewise (no such sherd, step; no such what).")
    static void promise11_noSuchSherdOrStep() {
        SherdTable x = new SherdTable();
        due("edge(0, 0, 0) of an empty table", edge(x, 0, 0, 0), OUTSIDE);
        square(x, 0, 10);
        x.sherd(0);
        for (int bad : new int[] {-1, 2, 12, MIN, MAX}) {
            due("edge(" + bad + ", 0, 0)", edge(x, bad, 0, 0), OUTSIDE);
        }
        for (int bad : new int[] {-1, 4, 20, MIN, MAX}) {
            due("edge(0, " + bad + ", 0)", edge(x, 0, bad, 0), OUTSIDE);
        }
        due("edge(1, 0, 0) of an empty edge", edge(x, 1, 0, 0), OUTSIDE);
    }

    @Sentence(at = "Promise 11", says = "Exceptions likewise (no such sherd, step; no such what).")
    static void promise11_noSuchWhat() {
        SherdTable x = squares(1);
        for (int bad : new int[] {-1, 5, MIN, MAX}) {
            due("edge(0, 0, " + bad + ")", edge(x, 0, 0, bad), NO_ELEMENT);
        }
        due("edge(0, 4, 5), no such step first", edge(x, 0, 4, 5), OUTSIDE);
        due("edge(1, 0, 5), no such sherd first", edge(x, 1, 0, 5), OUTSIDE);
    }

    @Sentence(at = "Promise 12", says = "The AREA of a sherd turned by t")
    static void promise12_everyTurn() {
        SherdTable x = squares(1);
        long[] unit = {1000000, 966L * 966 + 259 * 259, 866L * 866 + 500 * 500, 2L * 707 * 707,
            500L * 500 + 866 * 866, 259L * 259 + 966 * 966};
        for (int t = 0; t < 24; t++) {
            due("area(0, " + t + ")", x.area(0, t), 200 * unit[t % 6]);
        }
    }

    @Sentence(at = "Promise 12", says = "NONE: no such sherd, t")
    static void promise12_noSuchSherdOrTurn() {
        SherdTable x = new SherdTable();
        due("area(0, 0) of an empty table", x.area(0, 0), -1);
        square(x, 0, 10);
        for (int bad : new int[] {-1, 1, 12, MIN, MAX}) {
            due("area(" + bad + ", 0)", x.area(bad, 0), -1);
        }
        for (int bad : new int[] {-1, 24, MIN, MAX}) {
            due("area(0, " + bad + ")", x.area(0, bad), -1);
        }
    }

    @Sentence(at = "Promise 12", says = "or it is OPEN")
    static void promise12_itIsOpen() {
        SherdTable x = new SherdTable();
        open(x, 0, 0, 10, 6, 10, 12, 10, 18, 10);
        due("area(0, 0)", x.area(0, 0), -1);
        due("close(0)", x.close(0), 0);
        due("area(0, 0)", x.area(0, 0), 200000000);
    }

    @Sentence(at = "Promise 13", says = "whichever is named first, with its own step")
    static void promise13_whicheverIsNamedFirst() {
        SherdTable x = new SherdTable();
        square(x, 0, 10);
        triangle(x, 0, 10);
        due("fit(0, 3, 1, 0, 6)", x.fit(0, 3, 1, 0, 6), 1);
        due("fit(1, 0, 0, 3, 6)", x.fit(1, 0, 0, 3, 6), 1);
        due("fit(1, 3, 0, 0, 6), there is no step 3 of 1", x.fit(1, 3, 0, 0, 6), -1);
    }

    @Sentence(at = "Promise 13", says = "t is the turn of the one with the greater number")
    static void promise13_theTurnIsOfTheGreater() {
        SherdTable x = squares(2);
        due("fit(0, 0, 1, 1, 6)", x.fit(0, 0, 1, 1, 6), 1);
        due("fit(1, 1, 0, 0, 6)", x.fit(1, 1, 0, 0, 6), 1);
        due("fit(1, 1, 0, 0, 18)", x.fit(1, 1, 0, 0, 18), 0);
    }

    @Sentence(at = "Promise 13", says = "NONE: refused by 1 of JOIN")
    static void promise13_refusedBy1() {
        SherdTable x = squares(2);
        open(x, 0, 0, 10, 6, 10, 12, 10, 18, 10);
        for (int bad : new int[] {-1, 3, 12, MIN, MAX}) {
            due("no such a", x.fit(bad, 0, 1, 2, 0), -1);
            due("no such b", x.fit(0, 0, bad, 2, 0), -1);
        }
        for (int bad : new int[] {-1, 4, 20, MIN, MAX}) {
            due("no such i", x.fit(0, bad, 1, 2, 0), -1);
            due("no such j", x.fit(0, 0, 1, bad, 0), -1);
        }
        for (int bad : new int[] {-1, 24, MIN, MAX}) {
            due("no such t", x.fit(0, 0, 1, 2, bad), -1);
        }
        due("both the same", x.fit(1, 0, 1, 2, 0), -1);
        due("a is open", x.fit(2, 0, 1, 2, 0), -1);
        due("b is open", x.fit(0, 0, 2, 2, 0), -1);
        due("t 23", x.fit(0, 0, 1, 2, 23), 0);
    }

    @Sentence(at = "Promise 14", says = "of the latest fit() that was not NONE")
    static void promise14_ofTheLatestThatWasNotNone() {
        SherdTable x = new SherdTable();
        square(x, 5, 5);
        square(x, 0, 6);
        due("fit(0, 0, 1, 2, 0)", x.fit(0, 0, 1, 2, 0), 1);
        due("fit that is NONE", x.fit(0, 4, 1, 2, 0), -1);
        due("fitted(0)", x.fitted(0), 5);
        due("fitted(1)", x.fitted(1), 1000);
        due("fit of no pair", x.fit(0, 0, 1, 2, 12), 0);
        due("fitted(0)", x.fitted(0), 0);
        due("fitted(1)", x.fitted(1), 0);
    }

    /** Other calls that look for what FITS are no fit(). */
    @Sentence(at = "Promise 14", says = "of the latest fit() that was not NONE")
    static void promise14_otherCallsAreNoFit() {
        SherdTable x = new SherdTable();
        square(x, 5, 9);
        square(x, 0, 10);
        due("fit(0, 0, 1, 2, 0)", x.fit(0, 0, 1, 2, 0), 1);
        due("spans(0, 1)", x.spans(0, 1), 16);
        due("order()", x.order(), 0);
        due("join(0, 1, 1, 2, 1)", x.join(0, 1, 1, 2, 1), -2);
        due("join(0, 1, 1, 3, 0)", x.join(0, 1, 1, 3, 0), 0);
        due("hand(0, 2, 1, 0, 1)", x.hand(0, 2, 1, 0, 1), 1);
        due("fitted(0)", x.fitted(0), 9);
        due("fitted(1)", x.fitted(1), 1000);
    }

    @Sentence(at = "Promise 14", says = "NONE ahead of any")
    static void promise14_aheadOfAny() {
        SherdTable x = squares(2);
        due("fitted(0)", x.fitted(0), -1);
        due("fitted(1)", x.fitted(1), -1);
        due("fit that is NONE", x.fit(0, 0, 0, 2, 0), -1);
        due("spans(0, 1)", x.spans(0, 1), 16);
        due("fitted(0)", x.fitted(0), -1);
        due("fitted(1)", x.fitted(1), -1);
    }

    @Sentence(at = "Promise 14", says = "and for another what")
    static void promise14_anotherWhat() {
        SherdTable x = squares(2);
        due("fit(0, 0, 1, 2, 0)", x.fit(0, 0, 1, 2, 0), 1);
        for (int bad : new int[] {-1, 2, MIN, MAX}) {
            due("fitted(" + bad + ")", x.fitted(bad), -1);
        }
    }
}
