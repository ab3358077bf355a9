/** For each promise of the document ordinary inputs, the edges that it names, and wrong inputs. */
public final class PromisesTest extends Bench {
    public static void main(String[] args) {
        promise1();
        promise2();
        promise3();
        promise4();
        promise5();
        promise6();
        promise7();
        promise8();
        promise9();
        promise10();
        promise11();
        promise12();
        promise13();
        promise14();
        promise15();
        promise16();
        promise17();
        promise18();
        promise19();
        promise20();
        promise21();
        promise22();
        promise23();
        promise24();
        promise25();
        promise26();
        promise27();
        promise28();
        end();
    }

    private static void promise1() {
        place = "promise 1";
        SherdTable x = new SherdTable();
        due("groups()", x.groups(), 0);
        due("undo(0)", x.undo(0), 0);
        due("undo(1)", x.undo(1), -1);
        due("order()", x.order(), 0);
        due("round()", x.round(), -1);
        due("look(0, 0)", look(x, 0, 0), OUTSIDE);
        due("group(0, 0)", x.group(0, 0), -1);
        for (int what = 0; what < 4; what++) {
            due("lies", x.lies(what), -1);
            due("fitted", x.fitted(what), -1);
            due("span", x.span(0, what), -1);
            due("joined", x.joined(0, what), -1);
        }
        due("NONE", SherdTable.NONE, -1);
        SherdTable other = new SherdTable();
        square(other, 0, 10);
        due("groups() of the one that was left alone", x.groups(), 0);
        due("sherd(0)", x.sherd(0), 0);
        due("look(0, 1)", look(x, 0, 1), 0);
    }

    private static void promise2() {
        place = "promise 2";
        SherdTable x = new SherdTable();
        for (int bad : new int[] {-1, 6, 7, MIN, MAX}) {
            due("sherd(" + bad + ")", x.sherd(bad), -1);
        }
        for (int k = 0; k < 12; k++) {
            due("sherd(" + k % 6 + ")", x.sherd(k % 6), k);
            due("look(" + k + ", 0)", look(x, k, 0), k % 6);
            due("look(" + k + ", 1)", look(x, k, 1), 0);
            due("look(" + k + ", 2)", look(x, k, 2), 0);
            due("groups()", x.groups(), k + 1);
        }
        due("sherd(0), the thirteenth", x.sherd(0), -1);
        due("groups()", x.groups(), 12);
        due("look(12, 0)", look(x, 12, 0), OUTSIDE);
    }

    private static void promise3() {
        place = "promise 3";
        SherdTable x = new SherdTable();
        due("step(0, 0, 1)", x.step(0, 0, 1), -1);
        x.sherd(0);
        for (int bad : new int[] {-1, 1, 12, MIN, MAX}) {
            due("step(" + bad + ", 0, 1)", x.step(bad, 0, 1), -1);
        }
        for (int bad : new int[] {-1, 24, MIN, MAX}) {
            due("step(0, " + bad + ", 1)", x.step(0, bad, 1), -1);
        }
        for (int bad : new int[] {-1, 0, 13, MIN, MAX}) {
            due("step(0, 0, " + bad + ")", x.step(0, 0, bad), -1);
        }
        due("look(0, 1)", look(x, 0, 1), 0);
        for (int k = 0; k < 20; k++) {
            int direction = k % 2 == 0 ? 23 : 11;
            due("step " + k, x.step(0, direction, 12), k + 1);
            due("edge(0, " + k + ", 0)", edge(x, 0, k, 0), direction);
            due("edge(0, " + k + ", 1)", edge(x, 0, k, 1), 12);
        }
        due("the twenty-first step", x.step(0, 0, 1), -1);
        due("look(0, 1)", look(x, 0, 1), 20);
        due("close(0)", x.close(0), 0);
        square(x, 0, 1);
        due("a step of a closed one", x.step(1, 0, 1), -1);
        due("look(1, 1)", look(x, 1, 1), 4);
    }

    private static void promise4() {
        place = "promise 4";
        SherdTable x = new SherdTable();
        for (int bad : new int[] {-1, 0, MIN, MAX}) {
            due("close(" + bad + ")", x.close(bad), -1);
        }
        open(x, 0, 0, 1, 12, 1);
        due("close of two steps", x.close(0), -1);
        x.step(0, 0, 2);
        due("close, missing by GAP in X", x.close(0), 0);
        due("close again", x.close(0), -1);
        open(x, 0, 0, 12, 12, 9, 13, 1);
        due("close, missing by 2034 in X", x.close(1), 2034);
        due("look(1, 2)", look(x, 1, 2), 0);
        due("step of one that stayed open", x.step(1, 12, 1), 4);
        due("close(1)", x.close(1), 0);
        due("look(1, 2)", look(x, 1, 2), 1);
        open(x, 0, 6, 12, 18, 5, 18, 4);
        due("close, missing in Y", x.close(2), 3000);
        open(x, 0, 12, 3, 6, 1, 18, 1);
        due("close, missing below 0 in X", x.close(3), 3000);
        open(x, 0, 18, 12, 0, 1, 12, 3);
        due("close, missing in Y more than in X", x.close(4), 12000);
        closed(x, 0, 6, 1, 6, 1, 0, 2);
        open(x, 0, 2, 1, 2, 1, 1, 1);
        due("close, missing by 866 + 866 + 966", x.close(6), 2698);
        open(x, 0, 0, 9, 9, 5, 14, 4);
        due("close, missing by one more than GAP", x.close(7), 2001);
    }

    private static void promise5() {
        place = "promise 5";
        SherdTable x = new SherdTable();
        no("mark(0, 0, true)", x.mark(0, 0, true));
        for (int kind = 0; kind < 6; kind++) {
            square(x, kind, 10);
            boolean takes = kind == 1 || kind == 4;
            int plain = kind == 4 ? 0 : 1;
            due("edge(" + kind + ", 1, 2)", edge(x, kind, 1, 2), plain);
            due("mark(" + kind + ", 1, true)", x.mark(kind, 1, true) ? 1 : 0, takes ? 1 : 0);
            due("edge(" + kind + ", 1, 2)", edge(x, kind, 1, 2), takes ? 1 - plain : plain);
            due("edge(" + kind + ", 0, 2)", edge(x, kind, 0, 2), plain);
            due("mark(" + kind + ", 1, true)", x.mark(kind, 1, true) ? 1 : 0, takes ? 1 : 0);
            due("mark(" + kind + ", 1, false)", x.mark(kind, 1, false) ? 1 : 0, takes ? 1 : 0);
            due("edge(" + kind + ", 1, 2)", edge(x, kind, 1, 2), plain);
        }
        for (int bad : new int[] {-1, 4, MIN, MAX}) {
            no("mark(1, " + bad + ", true)", x.mark(1, bad, true));
        }
        for (int bad : new int[] {-1, 6, MIN, MAX}) {
            no("mark(" + bad + ", 0, true)", x.mark(bad, 0, true));
        }
        int open = open(x, 1, 0, 3);
        yes("mark of an open one", x.mark(open, 0, true));
        no("mark of a step to come", x.mark(open, 1, true));
        due("edge of an open one", edge(x, open, 0, 2), 0);
        due("hand(1, 2, 4, 1, 1)", x.hand(1, 2, 4, 1, 1), 0);
        no("mark in a JOIN", x.mark(1, 2, true));
        no("mark in a JOIN", x.mark(4, 1, true));
        yes("mark beside a JOIN", x.mark(1, 3, true));
        x.part(0);
        yes("mark when the JOIN is gone", x.mark(1, 2, true));
    }

    private static void promise6() {
        place = "promise 6";
        SherdTable x = new SherdTable();
        no("paint(0, 0, 1)", x.paint(0, 0, 1));
        for (int kind = 0; kind < 6; kind++) {
            square(x, kind, 10);
            boolean shows = kind == 3 || kind == 4;
            due("edge(" + kind + ", 2, 3)", edge(x, kind, 2, 3), 0);
            due("paint(" + kind + ", 2, 9)", x.paint(kind, 2, 9) ? 1 : 0, shows ? 1 : 0);
            due("edge(" + kind + ", 2, 3)", edge(x, kind, 2, 3), shows ? 9 : 0);
            due("edge(" + kind + ", 1, 3)", edge(x, kind, 1, 3), 0);
            due("paint(" + kind + ", 2, 0)", x.paint(kind, 2, 0) ? 1 : 0, shows ? 1 : 0);
            due("edge(" + kind + ", 2, 3)", edge(x, kind, 2, 3), 0);
        }
        for (int bad : new int[] {-1, 10, MIN, MAX}) {
            no("paint(3, 0, " + bad + ")", x.paint(3, 0, bad));
            no("paint(3, " + bad + ", 1)", x.paint(3, bad, 1));
            no("paint(" + bad + ", 0, 1)", x.paint(bad, 0, 1));
        }
        no("paint(3, 4, 1)", x.paint(3, 4, 1));
        due("edge(3, 0, 3)", edge(x, 3, 0, 3), 0);
        due("hand(3, 0, 0, 0, 2)", x.hand(3, 0, 0, 0, 2), 0);
        no("paint in a JOIN", x.paint(3, 0, 1));
        no("paint in a JOIN", x.paint(3, 3, 1));
        yes("paint beside a JOIN", x.paint(3, 1, 1));
        x.undo(1);
        yes("paint when the JOIN is gone", x.paint(3, 3, 1));
    }

    private static void thickness(SherdTable x, double value, int tenths) {
        yes("thick by " + value, x.thick(0, bits(value)));
        due("look(0, 3) of " + value, look(x, 0, 3), tenths);
    }

    private static void promise7() {
        place = "promise 7";
        SherdTable x = new SherdTable();
        no("thick(0, 0)", x.thick(0, 0));
        x.sherd(0);
        due("look(0, 3) at first", look(x, 0, 3), -1);
        thickness(x, 0, 0);
        thickness(x, 1, 10);
        thickness(x, 2.3, 22);
        thickness(x, 0.1, 1);
        thickness(x, 0.7, 6);
        thickness(x, 0.09, 0);
        thickness(x, 12.5, 125);
        thickness(x, 999.99, 9999);
        thickness(x, 1000, 10000);
        thickness(x, Float.MIN_VALUE, 0);
        thickness(x, Float.MIN_NORMAL, 0);
        thickness(x, 1e-6, 0);
        thickness(x, -0.0, 0);
        thickness(x, 5, 50);
        for (float bad : new float[] {-1, -Float.MIN_VALUE, Math.nextUp(1000f), 1001, Float.MAX_VALUE,
            Float.POSITIVE_INFINITY, Float.NEGATIVE_INFINITY}) {
            no("thick by " + bad, x.thick(0, Float.floatToRawIntBits(bad)));
            due("look(0, 3)", look(x, 0, 3), 50);
        }
        for (int noNumber : new int[] {0x7fc00000, 0xffc00000, 0x7f800001, 0xff800001, -1, MAX}) {
            yes("thick(0, 0)", x.thick(0, 0));
            yes("thick by no number", x.thick(0, noNumber));
            due("look(0, 3)", look(x, 0, 3), -1);
        }
        for (int bad : new int[] {-1, 1, MIN, MAX}) {
            no("thick(" + bad + ", 0)", x.thick(bad, 0));
        }
        SherdTable y = squares(3);
        y.hand(0, 0, 1, 2, 1);
        no("thick in a GROUP", y.thick(0, 0));
        no("thick in a GROUP", y.thick(1, 0x7fc00000));
        yes("thick of another one", y.thick(2, 0));
        y.part(0);
        yes("thick when the JOIN is gone", y.thick(1, 0));
    }

    private static void promise8() {
        place = "promise 8";
        SherdTable x = new SherdTable();
        no("circle(0, 1)", x.circle(0, 1));
        for (int kind = 0; kind < 6; kind++) {
            square(x, kind, 10);
            due("circle(" + kind + ", 200)", x.circle(kind, 200) ? 1 : 0, kind == 1 ? 1 : 0);
            due("look(" + kind + ", 4)", look(x, kind, 4), kind == 1 ? 200 : -1);
        }
        for (int bad : new int[] {-1, 0, 201, MIN, MAX}) {
            no("circle(1, " + bad + ")", x.circle(1, bad));
            due("look(1, 4)", look(x, 1, 4), 200);
        }
        yes("circle(1, 1)", x.circle(1, 1));
        due("look(1, 4)", look(x, 1, 4), 1);
        for (int bad : new int[] {-1, 6, MIN, MAX}) {
            no("circle(" + bad + ", 1)", x.circle(bad, 1));
        }
        x.hand(0, 0, 1, 0, 1);
        no("circle in a GROUP", x.circle(1, 2));
        x.part(0);
        yes("circle when the JOIN is gone", x.circle(1, 2));
    }

    private static void promise9() {
        place = "promise 9";
        SherdTable x = squares(2);
        int[] low = {1, 0, 0, 0};
        int[] high = {100, 10000, 100000, 1000};
        for (int what = 0; what < 4; what++) {
            yes("tell the least", x.tell(what, low[what]));
            yes("tell the most", x.tell(what, high[what]));
            no("tell below the least", x.tell(what, low[what] - 1));
            no("tell above the most", x.tell(what, high[what] + 1));
            no("tell", x.tell(what, MIN));
            no("tell", x.tell(what, MAX));
        }
        for (int bad : new int[] {-1, 4, MIN, MAX}) {
            no("tell(" + bad + ", 1)", x.tell(bad, 1));
        }
        due("spans(0, 1) with LEAST 100", x.spans(0, 1), 0);
        yes("tell(0, 11)", x.tell(0, 11));
        due("spans(0, 1) with LEAST 11", x.spans(0, 1), 0);
        yes("tell(0, 10)", x.tell(0, 10));
        due("spans(0, 1) with LEAST 10", x.spans(0, 1), 16);
        tellChangesThick();
        tellChangesRoundAndShare();
        SherdTable y = squares(2);
        due("join(0, 0, 1, 2, 0)", y.join(0, 0, 1, 2, 0), 0);
        yes("tell(0, 50)", y.tell(0, 50));
        due("a JOIN stays", y.joined(0, 5), 1);
    }

    private static void tellChangesThick() {
        SherdTable x = new SherdTable();
        x.sherd(0);
        x.sherd(0);
        x.thick(0, bits(1));
        x.thick(1, bits(2));
        due("two(0, 1), 10 tenths apart, at first", x.two(0, 1), 0);
        yes("tell(1, 9)", x.tell(1, 9));
        due("two(0, 1) with THICK 9", x.two(0, 1), 1);
        yes("tell(1, 10)", x.tell(1, 10));
        due("two(0, 1) with THICK 10", x.two(0, 1), 0);
    }

    /** Four squares with a side of 10 in a ring; the fourth of them is 1 too high. */
    private static SherdTable ringOfFour() {
        SherdTable x = squares(3);
        closed(x, 0, 0, 10, 6, 11, 12, 10, 18, 11);
        due("join(0, 1, 1, 3, 0)", x.join(0, 1, 1, 3, 0), 0);
        due("join(0, 0, 2, 2, 0)", x.join(0, 0, 2, 2, 0), 1);
        due("join(1, 0, 3, 2, 0)", x.join(1, 0, 3, 2, 0), 2);
        return x;
    }

    private static void tellChangesRoundAndShare() {
        SherdTable x = new SherdTable();
        square(x, 5, 10);
        square(x, 5, 10);
        due("hand(0, 0, 1, 2, 1)", x.hand(0, 0, 1, 2, 1), 0);
        yes("tell(2, 9999)", x.tell(2, 9999));
        due("join(0, 1, 1, 3, 0)", x.join(0, 1, 1, 3, 0), -5);
        yes("tell(2, 10000)", x.tell(2, 10000));
        due("join(0, 1, 1, 3, 0)", x.join(0, 1, 1, 3, 0), 1);
        SherdTable y = squares(3);
        due("join(0, 0, 1, 2, 0)", y.join(0, 0, 1, 2, 0), 0);
        yes("tell(3, 0)", y.tell(3, 0));
        due("join of one that lies free with SHARE 0", y.join(0, 1, 2, 3, 0), 1);
    }

    private static void promise10() {
        place = "promise 10";
        SherdTable x = new SherdTable();
        square(x, 1, 10);
        open(x, 5, 3, 4);
        x.circle(0, 33);
        x.thick(1, bits(4.5));
        long[][] want = {{1, 4, 1, -1, 33, 0, 0, 0, 0, 0}, {5, 1, 0, 45, -1, 1, 0, 0, 0, 0}};
        for (int s = 0; s < 2; s++) {
            for (int what = 0; what < 10; what++) {
                due("look(" + s + ", " + what + ")", look(x, s, what), want[s][what]);
            }
        }
        for (int bad : new int[] {-1, 10, MIN, MAX}) {
            due("look(0, " + bad + ")", look(x, 0, bad), NO_ELEMENT);
        }
        for (int bad : new int[] {-1, 2, 12, MIN, MAX}) {
            due("look(" + bad + ", 0)", look(x, bad, 0), OUTSIDE);
            due("look(" + bad + ", 10)", look(x, bad, 10), OUTSIDE);
        }
        lookWhereTheyLie();
        layingOrder();
    }

    private static void lookWhereTheyLie() {
        SherdTable x = squares(4);
        due("join(1, 0, 2, 0, 12)", x.join(1, 0, 2, 0, 12), 0);
        due("look(2, 5)", look(x, 2, 5), 1);
        where(x, 2, 12, 10000, 0);
        due("join(1, 1, 0, 1, 12)", x.join(1, 1, 0, 1, 12), 1);
        due("look(2, 5)", look(x, 2, 5), 0);
        due("look(1, 5)", look(x, 1, 5), 0);
        due("look(3, 5)", look(x, 3, 5), 3);
        where(x, 0, 0, 0, 0);
        where(x, 1, 12, 20000, 10000);
        where(x, 2, 0, 10000, 10000);
        due("look(1, 9)", look(x, 1, 9), 2);
        due("look(2, 9)", look(x, 2, 9), 1);
        due("look(3, 9)", look(x, 3, 9), 0);
        SherdTable y = squares(3);
        due("join(0, 1, 2, 2, 6)", y.join(0, 1, 2, 2, 6), 0);
        where(y, 2, 6, 20000, 0);
        due("join(1, 1, 2, 0, 18)", y.join(1, 1, 2, 0, 18), 1);
        where(y, 1, 12, 30000, 10000);
        due("joined(1, 7)", y.joined(1, 7), 0);
    }

    /** The one laid first lays all it can, by its JOINS with the least numbers, before the next one does. */
    private static void layingOrder() {
        SherdTable x = squares(3);
        due("hand(0, 0, 1, 2, 1)", x.hand(0, 0, 1, 2, 1), 0);
        due("hand(1, 0, 2, 2, 1)", x.hand(1, 0, 2, 2, 1), 1);
        where(x, 2, 0, 0, -20000);
        due("hand(0, 1, 2, 3, 1)", x.hand(0, 1, 2, 3, 1), 2);
        where(x, 1, 0, 0, -10000);
        where(x, 2, 0, 10000, 0);
        due("joined(1, 7)", x.joined(1, 7), 20000);
        due("hand(0, 3, 2, 1, 1)", x.hand(0, 3, 2, 1, 1), 3);
        where(x, 2, 0, 10000, 0);
        due("joined(3, 7)", x.joined(3, 7), 20000);
        due("part(0)", x.part(0), 1);
        due("hand(0, 2, 2, 0, 1)", x.hand(0, 2, 2, 0, 1), 0);
        where(x, 2, 0, 0, 10000);
        where(x, 1, 0, 0, 20000);
    }

    private static void promise11() {
        place = "promise 11";
        SherdTable x = new SherdTable();
        due("edge(0, 0, 0)", edge(x, 0, 0, 0), OUTSIDE);
        closed(x, 4, 23, 12, 11, 11, 5, 1);
        square(x, 0, 10);
        x.mark(0, 1, true);
        x.paint(0, 1, 7);
        due("hand(1, 2, 0, 2, 1)", x.hand(1, 2, 0, 2, 1), 0);
        long[][] want = {{23, 12, 0, 0, -1}, {11, 11, 1, 7, -1}, {5, 1, 0, 0, 0}};
        for (int k = 0; k < 3; k++) {
            for (int what = 0; what < 5; what++) {
                due("edge(0, " + k + ", " + what + ")", edge(x, 0, k, what), want[k][what]);
            }
        }
        due("edge(1, 2, 4)", edge(x, 1, 2, 4), 0);
        due("edge(1, 1, 4)", edge(x, 1, 1, 4), -1);
        for (int bad : new int[] {-1, 5, MIN, MAX}) {
            due("edge(0, 0, " + bad + ")", edge(x, 0, 0, bad), NO_ELEMENT);
            due("edge(0, " + bad + ", 0)", edge(x, 0, bad, 0), OUTSIDE);
            due("edge(" + bad + ", 0, 0)", edge(x, bad, 0, 0), OUTSIDE);
            due("edge(0, " + bad + ", 9)", edge(x, 0, bad, 9), OUTSIDE);
        }
        due("edge(0, 3, 0)", edge(x, 0, 3, 0), OUTSIDE);
        due("edge(2, 0, 0)", edge(x, 2, 0, 0), OUTSIDE);
    }

    private static void promise12() {
        place = "promise 12";
        SherdTable x = new SherdTable();
        due("area(0, 0)", x.area(0, 0), -1);
        square(x, 0, 10);
        due("area(0, 0)", x.area(0, 0), 200000000);
        due("area(0, 3)", x.area(0, 3), 199939600);
        due("area(0, 23)", x.area(0, 23), 2L * (9660L * 9660 + 2590L * 2590));
        closed(x, 0, 18, 10, 12, 10, 6, 10, 0, 10);
        due("area the other way round", x.area(1, 0), 200000000);
        closed(x, 0, 0, 2, 6, 1, 12, 1);
        due("area of one whose end misses", x.area(2, 0), 3000000);
        open(x, 0, 0, 1, 6, 1, 12, 1, 18, 1);
        due("area of an open one", x.area(3, 0), -1);
        for (int bad : new int[] {-1, 24, MIN, MAX}) {
            due("area(0, " + bad + ")", x.area(0, bad), -1);
            due("area(" + bad + ", 0)", x.area(bad, 0), -1);
        }
        due("area(4, 0)", x.area(4, 0), -1);
    }

    private static void promise13() {
        place = "promise 13";
        SherdTable x = new SherdTable();
        square(x, 0, 10);
        square(x, 0, 10);
        due("fit(0, 0, 1, 2, 0)", x.fit(0, 0, 1, 2, 0), 1);
        due("fit(0, 1, 1, 2, 6)", x.fit(0, 1, 1, 2, 6), 1);
        due("fit(1, 2, 0, 1, 6)", x.fit(1, 2, 0, 1, 6), 1);
        due("fit(0, 2, 1, 1, 6)", x.fit(0, 2, 1, 1, 6), 0);
        open(x, 0, 0, 10, 6, 10, 12, 10);
        due("fit with an open one", x.fit(0, 0, 2, 0, 12), -1);
        for (int bad : new int[] {-1, 4, MIN, MAX}) {
            due("fit, no such i", x.fit(0, bad, 1, 0, 0), -1);
            due("fit, no such j", x.fit(0, 0, 1, bad, 0), -1);
            due("fit, no such a", x.fit(bad, 0, 1, 0, 0), -1);
            due("fit, no such b", x.fit(0, 0, bad, 0, 0), -1);
        }
        for (int bad : new int[] {-1, 24, MIN, MAX}) {
            due("fit, no such t", x.fit(0, 0, 1, 0, bad), -1);
        }
        due("fit of one with itself", x.fit(1, 0, 1, 2, 0), -1);
        fitGoesRound();
        fitSlack();
        fitNeedsBreaksAndColours();
    }

    /** Both go the same way round, so b gone back lies along a for as long as the lesser edge is. */
    private static void fitGoesRound() {
        SherdTable x = new SherdTable();
        square(x, 0, 5);
        closed(x, 0, 18, 5, 12, 5, 6, 5, 0, 5);
        due("fit(0, 0, 1, 1, 0)", x.fit(0, 0, 1, 1, 0), 4);
        due("fitted(0)", x.fitted(0), 20);
        due("fit(0, 3, 1, 2, 0)", x.fit(0, 3, 1, 2, 0), 4);
        due("fit(0, 3, 1, 2, 1)", x.fit(0, 3, 1, 2, 1), 0);
        due("hand(0, 1, 1, 0, 1)", x.hand(0, 1, 1, 0, 1), 0);
        due("fit up to a JOIN", x.fit(0, 3, 1, 2, 0), 2);
        due("fit from behind a JOIN", x.fit(0, 2, 1, 3, 0), 3);
        due("fit on a JOIN", x.fit(0, 1, 1, 0, 0), 0);
        SherdTable y = new SherdTable();
        closed(y, 0, 0, 7, 8, 7, 16, 7);
        closed(y, 0, 12, 7, 4, 7, 20, 7, 12, 1);
        due("fit up to the short step", y.fit(0, 0, 1, 0, 0), 1);
        due("fit(0, 1, 1, 2, 0)", y.fit(0, 1, 1, 2, 0), 3);
        due("fitted(0)", y.fitted(0), 21);
        SherdTable z = new SherdTable();
        triangle(z, 0, 1);
        closed(z, 0, 12, 1, 4, 1, 20, 1, 12, 1);
        due("fit, no more than the lesser edge", z.fit(0, 0, 1, 3, 0), 3);
    }

    private static void fitSlack() {
        SherdTable x = new SherdTable();
        closed(x, 0, 0, 2, 8, 2, 16, 2);
        closed(x, 0, 12, 3, 12, 2, 0, 3, 0, 2);
        due("fit, 518 apart", x.fit(0, 0, 1, 1, 1), 1);
        due("fitted(1)", x.fitted(1), 518);
        due("fit, 1000 apart by the length", x.fit(0, 0, 1, 0, 0), 0);
        SherdTable y = new SherdTable();
        triangle(y, 0, 1);
        triangle(y, 5, 1);
        due("fit, 1500 apart, with a Worn one", y.fit(0, 0, 1, 0, 20), 3);
        due("fitted(1)", y.fitted(1), 1500);
        due("fit, 1707 apart, with a Worn one", y.fit(0, 0, 1, 0, 21), 0);
        triangle(y, 0, 1);
        due("fit, 1500 apart, without", y.fit(0, 0, 2, 0, 20), 0);
        SherdTable z = new SherdTable();
        triangle(z, 5, 1);
        triangle(z, 0, 1);
        due("fit, the lesser one is Worn", z.fit(0, 0, 1, 0, 20), 3);
        fitAtTheSlackItself();
    }

    private static void fitAtTheSlackItself() {
        for (int kind = 0; kind < 5; kind++) {
            SherdTable x = new SherdTable();
            closed(x, kind, 0, 1, 4, 1, 14, 1);
            closed(x, kind, 17, 1, 14, 1, 2, 1);
            for (int k = 0; kind == 4 && k < 3; k++) {
                x.mark(0, k, true);
                x.mark(1, k, true);
            }
            due("fit, 600 apart, KIND " + kind, x.fit(0, 0, 1, 1, 0), 3);
            due("fitted(1)", x.fitted(1), 600);
        }
        SherdTable y = new SherdTable();
        closed(y, 5, 0, 1, 2, 6, 14, 6);
        closed(y, 5, 15, 6, 13, 1, 3, 6);
        due("fit, 1501 apart, both Worn", y.fit(0, 0, 1, 1, 0), 1);
        due("fitted(1)", y.fitted(1), 259);
    }

    private static void fitNeedsBreaksAndColours() {
        SherdTable x = new SherdTable();
        square(x, 3, 5);
        closed(x, 4, 18, 5, 12, 5, 6, 5, 0, 5);
        closed(x, 1, 18, 5, 12, 5, 6, 5, 0, 5);
        due("fit with a Handle without marks", x.fit(0, 0, 1, 1, 0), 0);
        for (int k = 0; k < 4; k++) {
            x.mark(1, k, true);
        }
        due("fit with a Handle", x.fit(0, 0, 1, 1, 0), 4);
        x.paint(1, 3, 2);
        due("fit up to another colour", x.fit(0, 0, 1, 1, 0), 2);
        x.paint(0, 2, 2);
        due("fit with the same colour", x.fit(0, 0, 1, 1, 0), 4);
        due("fit with one that doesn't show", x.fit(0, 0, 2, 1, 0), 4);
        x.mark(2, 0, true);
        due("fit up to a rim", x.fit(0, 0, 2, 1, 0), 1);
    }

    private static void promise14() {
        place = "promise 14";
        SherdTable x = new SherdTable();
        square(x, 5, 5);
        square(x, 0, 6);
        due("fitted(0) ahead of any", x.fitted(0), -1);
        due("fitted(1) ahead of any", x.fitted(1), -1);
        due("fit(0, 0, 1, 5, 0)", x.fit(0, 0, 1, 5, 0), -1);
        due("fitted(0)", x.fitted(0), -1);
        due("fit(0, 0, 1, 2, 0)", x.fit(0, 0, 1, 2, 0), 1);
        due("fitted(0)", x.fitted(0), 5);
        due("fitted(1)", x.fitted(1), 1000);
        due("fit(0, 0, 0, 2, 0)", x.fit(0, 0, 0, 2, 0), -1);
        due("fitted(0)", x.fitted(0), 5);
        x.spans(0, 1);
        due("fitted(0) behind spans()", x.fitted(0), 5);
        x.join(0, 1, 1, 3, 0);
        x.order();
        due("fitted(1) behind join()", x.fitted(1), 1000);
        for (int bad : new int[] {-1, 2, MIN, MAX}) {
            due("fitted(" + bad + ")", x.fitted(bad), -1);
        }
        due("fit(1, 2, 0, 0, 5)", x.fit(1, 2, 0, 0, 5), 0);
        due("fitted(0)", x.fitted(0), 0);
        due("fitted(1)", x.fitted(1), 0);
    }

    private static void promise15() {
        place = "promise 15";
        SherdTable x = squares(2);
        open(x, 0, 0, 1);
        due("spans(0, 1)", x.spans(0, 1), 16);
        due("spans(1, 0)", x.spans(1, 0), 16);
        due("spans with an open one", x.spans(0, 2), -1);
        due("spans with an open one", x.spans(2, 0), -1);
        due("spans of one with itself", x.spans(1, 1), -1);
        for (int bad : new int[] {-1, 3, MIN, MAX}) {
            due("spans(0, " + bad + ")", x.spans(0, bad), -1);
            due("spans(" + bad + ", 0)", x.spans(bad, 0), -1);
        }
        due("hand(0, 0, 1, 0, 1)", x.hand(0, 0, 1, 0, 1), 0);
        due("spans(0, 1) with a JOIN", x.spans(0, 1), 9);
        SherdTable y = new SherdTable();
        square(y, 0, 5);
        due("spans(0, 1)", y.spans(0, 1), -1);
        square(y, 0, 5);
        due("spans below LEAST", y.spans(0, 1), 0);
        y.tell(0, 5);
        due("spans of LEAST", y.spans(0, 1), 16);
    }

    /** A staircase of 4, 3, 4 and its counterpart: one SPAN of three pairs, not also its ends. */
    private static void promise16() {
        place = "promise 16";
        SherdTable x = new SherdTable();
        due("span(0, 0) ahead of any", x.span(0, 0), -1);
        closed(x, 0, 0, 4, 6, 3, 0, 4, 18, 9, 12, 8, 6, 6);
        closed(x, 0, 18, 3, 12, 4, 6, 11, 0, 8, 18, 8, 12, 4);
        x.tell(0, 8);
        due("spans(0, 1)", x.spans(0, 1), 3);
        long[][] want = {{0, 1, 0, 3, 11, 0}, {4, 3, 0, 1, 8, 0}, {4, 4, 6, 1, 8, 0}};
        for (int k = 0; k < 3; k++) {
            for (int what = 0; what < 6; what++) {
                due("span(" + k + ", " + what + ")", x.span(k, what), want[k][what]);
            }
        }
        due("span(3, 0)", x.span(3, 0), -1);
        due("spans(0, 0)", x.spans(0, 0), -1);
        due("span(0, 3) behind spans() that was NONE", x.span(0, 3), 3);
        spanOrder();
        manySpans();
    }

    private static void spanOrder() {
        SherdTable x = new SherdTable();
        closed(x, 5, 0, 6, 6, 7, 12, 6, 18, 7);
        closed(x, 5, 0, 6, 6, 7, 12, 6, 18, 7);
        due("spans(1, 0)", x.spans(1, 0), 16);
        int[][] want = {{1, 1, 12, 1, 7, 0}, {1, 3, 0, 1, 7, 0}, {3, 1, 0, 1, 7, 0}, {3, 3, 12, 1, 7, 0},
            {0, 0, 12, 1, 6, 0}, {0, 2, 0, 1, 6, 0}, {2, 0, 0, 1, 6, 0}, {2, 2, 12, 1, 6, 0},
            {0, 1, 6, 1, 6, 1000}, {0, 3, 18, 1, 6, 1000}, {1, 0, 18, 1, 6, 1000}};
        for (int k = 0; k < want.length; k++) {
            for (int what = 0; what < 6; what++) {
                due("span(" + k + ", " + what + ")", x.span(k, what), want[k][what]);
            }
        }
        due("hand(0, 1, 1, 1, 1)", x.hand(0, 1, 1, 1, 1), 0);
        due("span(0, 0) behind a JOIN", x.span(0, 0), 1);
        for (int bad : new int[] {-1, 16, MIN, MAX}) {
            due("span(" + bad + ", 0)", x.span(bad, 0), -1);
        }
        for (int bad : new int[] {-1, 6, MIN, MAX}) {
            due("span(0, " + bad + ")", x.span(0, bad), -1);
        }
    }

    private static void manySpans() {
        SherdTable x = new SherdTable();
        twelveSided(x, 0, 6);
        twelveSided(x, 0, 6);
        due("spans(0, 1)", x.spans(0, 1), 144);
        for (int k = 0; k < 50; k++) {
            due("span(" + k + ", 0)", x.span(k, 0), k / 12);
            due("span(" + k + ", 1)", x.span(k, 1), k % 12);
            due("span(" + k + ", 2)", x.span(k, 2), Math.floorMod(2 * (k / 12) - 2 * (k % 12) - 12, 24));
        }
        due("span(50, 0)", x.span(50, 0), -1);
    }

    private static void promise17() {
        place = "promise 17";
        SherdTable x = new SherdTable();
        int[] kinds = {2, 2, 1, 1, 1, 0};
        for (int kind : kinds) {
            x.sherd(kind);
        }
        x.circle(2, 20);
        x.circle(3, 21);
        due("two(0, 1), both Bases", x.two(0, 1), 2);
        due("two(2, 3), unlike CIRCLES", x.two(2, 3), 3);
        due("two(3, 2)", x.two(3, 2), 3);
        due("two(2, 4), one without a CIRCLE", x.two(2, 4), 0);
        due("two(0, 2)", x.two(0, 2), 0);
        x.circle(4, 20);
        due("two(2, 4), the same CIRCLE", x.two(2, 4), 0);
        x.thick(0, bits(1));
        due("two(0, 1), one is measured", x.two(0, 1), 2);
        x.thick(1, bits(2.125));
        due("two(0, 1), 11 tenths apart", x.two(0, 1), 1);
        due("two(1, 0)", x.two(1, 0), 1);
        x.thick(1, bits(2));
        due("two(0, 1), 10 tenths apart", x.two(0, 1), 2);
        x.thick(2, bits(0));
        x.thick(3, bits(9));
        due("two(2, 3)", x.two(2, 3), 1);
        due("two(5, 3)", x.two(5, 3), 0);
        due("two(5, 5)", x.two(5, 5), -1);
        for (int bad : new int[] {-1, 6, MIN, MAX}) {
            due("two(0, " + bad + ")", x.two(0, bad), -1);
            due("two(" + bad + ", 0)", x.two(bad, 0), -1);
        }
    }

    private static void promise18() {
        place = "promise 18";
        SherdTable x = new SherdTable();
        due("apart(0)", x.apart(0), -1);
        int[] kinds = {2, 0, 2, 2, 1, 1, 0};
        for (int kind : kinds) {
            x.sherd(kind);
        }
        x.thick(1, bits(1));
        x.thick(2, bits(5));
        x.circle(4, 7);
        x.circle(5, 8);
        x.thick(5, bits(1));
        x.thick(6, bits(5));
        int[] want = {0, 0, 1, 2, 0, 2, 1};
        for (int k = 0; k < want.length; k++) {
            due("apart(" + k + ")", x.apart(k), want[k]);
        }
        for (int bad : new int[] {-1, 7, MIN, MAX}) {
            due("apart(" + bad + ")", x.apart(bad), -1);
        }
        SherdTable y = new SherdTable();
        for (int k = 0; k < 12; k++) {
            y.sherd(2);
            due("apart(" + k + ")", y.apart(k), k);
        }
    }

    private static void promise19() {
        place = "promise 19";
        SherdTable x = squares(3);
        open(x, 0, 0, 10, 6, 10, 12, 10);
        for (int bad : new int[] {-1, 4, MIN, MAX}) {
            due("join, no such a", x.join(bad, 0, 1, 2, 0), -1);
            due("join, no such i", x.join(0, bad, 1, 2, 0), -1);
            due("join, no such b", x.join(0, 0, bad, 2, 0), -1);
            due("join, no such j", x.join(0, 0, 1, bad, 0), -1);
        }
        for (int bad : new int[] {-1, 24, MIN, MAX}) {
            due("join, no such t", x.join(0, 0, 1, 2, bad), -1);
        }
        due("join with an open one", x.join(0, 0, 3, 2, 0), -1);
        due("join of one with itself", x.join(0, 0, 0, 2, 0), -1);
        due("join of no SPAN", x.join(0, 0, 1, 2, 1), -2);
        due("join(1, 2, 0, 0, 0)", x.join(1, 2, 0, 0, 0), 0);
        due("join again", x.join(0, 0, 1, 2, 0), -2);
        due("join(0, 1, 2, 3, 0)", x.join(0, 1, 2, 3, 0), 1);
        where(x, 1, 0, 0, -10000);
        where(x, 2, 0, 10000, 0);
        due("part(0)", x.part(0), 3);
        due("join, the free number", x.join(0, 0, 1, 2, 0), 0);
        joinNeedsTheWholeSpan();
        joinOfNoOnePot();
        joinWhenThereAreForty();
        joinComesRound();
    }

    private static void joinNeedsTheWholeSpan() {
        SherdTable x = new SherdTable();
        closed(x, 0, 0, 4, 6, 3, 0, 4, 18, 9, 12, 8, 6, 6);
        closed(x, 0, 18, 3, 12, 4, 6, 11, 0, 8, 18, 8, 12, 4);
        x.tell(0, 1);
        due("fit(0, 1, 1, 0, 0)", x.fit(0, 1, 1, 0, 0), 2);
        due("join from its second pair on", x.join(0, 1, 1, 0, 0), -2);
        due("join(0, 0, 1, 1, 0)", x.join(0, 0, 1, 1, 0), 0);
        due("joined(0, 5)", x.joined(0, 5), 3);
        for (int k = 0; k < 3; k++) {
            due("edge(0, " + k + ", 4)", edge(x, 0, k, 4), 0);
        }
        due("edge(0, 3, 4)", edge(x, 0, 3, 4), -1);
        due("edge(1, 5, 4)", edge(x, 1, 5, 4), 0);
        due("edge(1, 2, 4)", edge(x, 1, 2, 4), -1);
        spanThatGoesOnRound();
    }

    /** What fits goes on past the last step to the first, of either sherd: it is a SPAN from where it begins. */
    private static void spanThatGoesOnRound() {
        SherdTable x = new SherdTable();
        square(x, 0, 5);
        closed(x, 0, 12, 5, 6, 5, 0, 5, 18, 5);
        x.tell(0, 1);
        due("hand(0, 2, 1, 2, 1)", x.hand(0, 2, 1, 2, 1), 0);
        due("fit(0, 3, 1, 1, 0)", x.fit(0, 3, 1, 1, 0), 3);
        due("join from its second pair on", x.join(0, 0, 1, 0, 0), -2);
        due("join from its third pair on", x.join(0, 1, 1, 3, 0), -2);
        due("join from its first pair on", x.join(0, 3, 1, 1, 0), -6);
        due("lies(2)", x.lies(2), 25);
        x.tell(3, 25);
        due("join with SHARE 25", x.join(0, 3, 1, 1, 0), 1);
        due("look(0, 9)", look(x, 0, 9), 4);
        due("look(1, 9)", look(x, 1, 9), 4);
    }

    private static void joinOfNoOnePot() {
        SherdTable x = new SherdTable();
        int[] kinds = {2, 0, 0, 2};
        for (int kind : kinds) {
            square(x, kind, 10);
        }
        due("join(0, 0, 1, 2, 0)", x.join(0, 0, 1, 2, 0), 0);
        due("join(2, 0, 3, 2, 0)", x.join(2, 0, 3, 2, 0), 1);
        due("join of GROUPS of no one pot", x.join(1, 1, 2, 3, 0), -3);
        due("hand of the same", x.hand(1, 1, 2, 3, 1), 2);
        due("join within a GROUP", x.join(0, 1, 3, 3, 0), -5);
        SherdTable y = new SherdTable();
        square(y, 2, 10);
        square(y, 2, 10);
        square(y, 0, 10);
        due("join(0, 0, 2, 2, 0)", y.join(0, 0, 2, 2, 0), 0);
        due("join to a GROUP with another Base", y.join(1, 1, 2, 3, 0), -3);
        due("join(0, 1, 1, 3, 0)", y.join(0, 1, 1, 3, 0), -3);
        due("round()", y.round(), -1);
        due("lies(0)", y.lies(0), -1);
    }

    private static void joinWhenThereAreForty() {
        SherdTable x = new SherdTable();
        for (int k = 0; k < 8; k++) {
            twelveSided(x, k == 6 || k == 7 ? 2 : 0, 6);
        }
        for (int k = 0; k < 40; k++) {
            int a = k / 12 * 2 % 6;
            int step = k % 12;
            int made = k < 36 ? x.hand(a, step, a + 1, step, 1) : x.hand(6, step, 7, step, 1);
            due("hand " + k, made, k);
        }
        due("hand, the forty-first", x.hand(6, 10, 7, 10, 1), -4);
        due("hand, of a JOIN's steps", x.hand(6, 1, 7, 10, 1), -2);
        square(x, 0, 10);
        square(x, 0, 10);
        due("join, the forty-first", x.join(8, 0, 9, 2, 0), -4);
        square(x, 2, 10);
        square(x, 2, 10);
        due("join, refused by 3 ahead of 4", x.join(10, 0, 11, 2, 0), -3);
        due("order()", x.order(), 0);
        due("part(17)", x.part(17), 8);
        due("join, the free number", x.join(8, 0, 9, 2, 0), 17);
        due("undo(40)", x.undo(40), 0);
    }

    private static void joinComesRound() {
        SherdTable x = ringOfFour();
        due("join(2, 1, 3, 3, 0), 10 by 11", x.join(2, 1, 3, 3, 0), -2);
        SherdTable y = squares(4);
        due("join(0, 1, 1, 3, 0)", y.join(0, 1, 1, 3, 0), 0);
        due("join(0, 0, 2, 2, 0)", y.join(0, 0, 2, 2, 0), 1);
        due("join(1, 0, 3, 2, 0)", y.join(1, 0, 3, 2, 0), 2);
        due("join(2, 1, 3, 3, 0)", y.join(2, 1, 3, 3, 0), 3);
        due("joined(3, 7)", y.joined(3, 7), 0);
        due("join, turned otherwise", y.join(2, 2, 3, 1, 1), -2);
        due("join, a step in a JOIN", y.join(2, 2, 3, 1, 6), -2);
        due("join(2, 0, 3, 0, 12)", y.join(2, 0, 3, 0, 12), -5);
        due("round()", y.round(), 1000000000);
    }

    private static void promise20() {
        place = "promise 20";
        SherdTable x = new SherdTable();
        closed(x, 0, 5, 12, 13, 12, 21, 12);
        square(x, 1, 3);
        x.mark(1, 1, true);
        open(x, 0, 0, 10, 6, 10, 12, 10);
        for (int bad : new int[] {-1, 4, MIN, MAX}) {
            due("hand, no such a", x.hand(bad, 0, 1, 2, 1), -1);
            due("hand, no such i", x.hand(0, bad, 1, 2, 1), -1);
            due("hand, no such b", x.hand(0, 0, bad, 2, 1), -1);
            due("hand, no such j", x.hand(0, 0, 1, bad, 1), -1);
            due("hand, no such n", x.hand(0, 0, 1, 2, bad), -2);
        }
        due("hand, n 0", x.hand(0, 0, 1, 2, 0), -2);
        due("hand with an open one", x.hand(0, 0, 2, 2, 1), -1);
        due("hand of one with itself", x.hand(0, 0, 0, 1, 1), -1);
        due("hand, no such sherd ahead of no such n", x.hand(0, 0, 0, 1, 9), -1);
        due("hand(1, 1, 0, 2, 2), of no BREAK", x.hand(1, 1, 0, 2, 2), 0);
        long[] want = {0, 2, 1, 1, 3, 2, 1, 0};
        for (int what = 0; what < 8; what++) {
            due("joined(0, " + what + ")", x.joined(0, what), want[what]);
        }
        due("edge(0, 2, 4)", edge(x, 0, 2, 4), 0);
        due("edge(0, 0, 4)", edge(x, 0, 0, 4), 0);
        due("edge(0, 1, 4)", edge(x, 0, 1, 4), -1);
        due("edge(1, 0, 4)", edge(x, 1, 0, 4), 0);
        due("edge(1, 2, 4)", edge(x, 1, 2, 4), -1);
        due("hand onto the second of its steps", x.hand(0, 1, 1, 2, 2), -2);
        due("hand(0, 1, 1, 2, 1)", x.hand(0, 1, 1, 2, 1), 1);
        due("joined(1, 4)", x.joined(1, 4), 13);
        due("joined(1, 7)", x.joined(1, 7), 1000000000);
        due("round()", x.round(), -1);
        SherdTable y = new SherdTable();
        triangle(y, 0, 5);
        square(y, 0, 5);
        due("hand, more than the lesser edge", y.hand(1, 1, 0, 1, 4), -2);
        due("hand, all of the lesser edge", y.hand(1, 1, 0, 1, 3), 0);
        due("look(0, 9)", look(y, 0, 9), 3);
        due("edge(1, 2, 4)", edge(y, 1, 2, 4), -1);
    }

    private static void promise21() {
        place = "promise 21";
        SherdTable x = squares(4);
        due("part(0)", x.part(0), -1);
        x.hand(0, 0, 1, 2, 1);
        x.hand(1, 0, 2, 2, 1);
        x.hand(0, 1, 2, 3, 1);
        due("groups()", x.groups(), 2);
        for (int bad : new int[] {-1, 3, 40, MIN, MAX}) {
            due("part(" + bad + ")", x.part(bad), -1);
        }
        due("part(2)", x.part(2), 2);
        where(x, 2, 0, 0, -20000);
        due("part(2) again", x.part(2), -1);
        due("part(0)", x.part(0), 3);
        due("edge(0, 0, 4)", edge(x, 0, 0, 4), -1);
        due("edge(1, 2, 4)", edge(x, 1, 2, 4), -1);
        due("edge(1, 0, 4)", edge(x, 1, 0, 4), 1);
        due("look(2, 5)", look(x, 2, 5), 1);
        where(x, 2, 0, 0, -10000);
        due("joined(0, 0)", x.joined(0, 0), -1);
        due("joined(1, 0)", x.joined(1, 0), 1);
        due("hand, the least free number", x.hand(0, 2, 3, 0, 1), 0);
        due("hand, the next one", x.hand(0, 3, 3, 2, 1), 2);
    }

    private static void promise22() {
        place = "promise 22";
        SherdTable x = squares(3);
        due("join(2, 0, 1, 3, 18)", x.join(2, 0, 1, 3, 18), -2);
        due("join(2, 0, 1, 3, 6)", x.join(2, 0, 1, 3, 6), 0);
        long[] want = {1, 3, 2, 0, 6, 1, 0, 0};
        for (int what = 0; what < 8; what++) {
            due("joined(0, " + what + ")", x.joined(0, what), want[what]);
        }
        due("hand(0, 0, 1, 2, 1)", x.hand(0, 0, 1, 2, 1), 1);
        due("hand(0, 1, 1, 3, 1), 3 is in a JOIN", x.hand(0, 1, 1, 3, 1), -2);
        due("hand(0, 2, 1, 0, 1)", x.hand(0, 2, 1, 0, 1), 2);
        due("joined(1, 6)", x.joined(1, 6), 1);
        due("joined(1, 7)", x.joined(1, 7), 0);
        due("joined(2, 7)", x.joined(2, 7), 20000);
        x.part(1);
        due("joined(2, 7)", x.joined(2, 7), 0);
        for (int bad : new int[] {-1, 8, MIN, MAX}) {
            due("joined(0, " + bad + ")", x.joined(0, bad), -1);
        }
        for (int bad : new int[] {-1, 1, 3, 40, MIN, MAX}) {
            due("joined(" + bad + ", 0)", x.joined(bad, 0), -1);
        }
    }

    private static void promise23() {
        place = "promise 23";
        SherdTable x = squares(2);
        due("round() ahead of any", x.round(), -1);
        due("join(0, 0, 1, 2, 0)", x.join(0, 0, 1, 2, 0), 0);
        due("join(0, 1, 1, 3, 0)", x.join(0, 1, 1, 3, 0), -5);
        due("round()", x.round(), 10000);
        due("join(0, 2, 1, 0, 0)", x.join(0, 2, 1, 0, 0), -5);
        due("round()", x.round(), 20000);
        due("join(0, 2, 1, 1, 18)", x.join(0, 2, 1, 1, 18), -5);
        due("round()", x.round(), 1000000000);
        due("join(0, 2, 1, 1, 7)", x.join(0, 2, 1, 1, 7), -2);
        due("round()", x.round(), 1000000000);
        due("groups()", x.groups(), 1);
        due("group(0, 1)", x.group(0, 1), 1);
        x.tell(2, 10000);
        due("join, missing by ROUND", x.join(0, 1, 1, 3, 0), 1);
        due("joined(1, 7)", x.joined(1, 7), 10000);
        roundAtFirst();
        SherdTable y = oneSpanApart();
        due("hand(0, 2, 1, 2, 1)", y.hand(0, 2, 1, 2, 1), 0);
        due("order()", y.order(), 0);
        due("round() by order()", y.round(), 5388);
    }

    /** By hand steps of unlike lengths, so that the next pair, which would fit, comes round and misses. */
    private static void roundAtFirst() {
        for (int k = 3; k < 5; k++) {
            SherdTable x = new SherdTable();
            closed(x, 0, 0, 1 + k, 0, 8, 6, 10, 12, 9 + k - 2, 12, 2, 18, 10);
            closed(x, 0, 0, 9, 6, 10, 12, 8, 12, 1, 18, 10);
            due("hand(0, 0, 1, 3, 1)", x.hand(0, 0, 1, 3, 1), 0);
            where(x, 1, 0, 0, -10000);
            due("join with ROUND 3000", x.join(0, 1, 1, 2, 0), k == 3 ? 1 : -5);
            due("round()", x.round(), k == 3 ? -1 : 4000);
            due("joined(1, 7)", x.joined(1, 7), k == 3 ? 3000 : -1);
        }
    }

    /** Two whose only SPAN is that of their steps 0, turned by 12. */
    private static SherdTable oneSpanApart() {
        SherdTable x = new SherdTable();
        closed(x, 0, 0, 12, 11, 6, 13, 6);
        closed(x, 0, 0, 12, 11, 6, 13, 6);
        x.tell(0, 7);
        due("spans(0, 1)", x.spans(0, 1), 1);
        return x;
    }

    private static void promise24() {
        place = "promise 24";
        SherdTable x = squares(6);
        for (int what = -1; what < 4; what++) {
            due("lies(" + what + ") ahead of any", x.lies(what), -1);
        }
        x.join(0, 0, 1, 2, 0);
        x.join(0, 1, 2, 3, 0);
        x.join(1, 1, 3, 3, 0);
        due("join(2, 0, 4, 2, 0)", x.join(2, 0, 4, 2, 0), -6);
        due("lies(0)", x.lies(0), 3);
        due("lies(1)", x.lies(1), 4);
        due("lies(2)", x.lies(2), 100);
        for (int bad : new int[] {-1, 3, MIN, MAX}) {
            due("lies(" + bad + ")", x.lies(bad), -1);
        }
        due("groups()", x.groups(), 3);
        due("edge(2, 0, 4)", edge(x, 2, 0, 4), -1);
        due("edge(4, 2, 4)", edge(x, 4, 2, 4), -1);
        due("look(4, 5)", look(x, 4, 5), 4);
        yes("tell(3, 99)", x.tell(3, 99));
        due("join with SHARE 99", x.join(2, 0, 4, 2, 0), -6);
        yes("tell(3, 100)", x.tell(3, 100));
        due("join with SHARE 100", x.join(2, 0, 4, 2, 0), 3);
        due("lies(2) stays", x.lies(2), 100);
        yes("tell(3, 0)", x.tell(3, 0));
        due("join of one that lies free, to a GROUP in which two don't", x.join(0, 3, 5, 1, 0), -6);
        due("lies(0)", x.lies(0), 3);
        due("lies(1)", x.lies(1), 4);
        liesByPoints();
        liesByOrder();
    }

    private static void liesByPoints() {
        SherdTable x = new SherdTable();
        closed(x, 0, 0, 10, 6, 1, 12, 10, 18, 1);
        closed(x, 0, 0, 10, 18, 1, 12, 10, 6, 1);
        due("join(0, 0, 1, 2, 0)", x.join(0, 0, 1, 2, 0), -6);
        due("lies(2)", x.lies(2), 10);
        due("join(0, 0, 1, 0, 12)", x.join(0, 0, 1, 0, 12), -6);
        due("lies(0)", x.lies(0), 0);
        due("lies(1)", x.lies(1), 1);
        due("lies(2)", x.lies(2), 10);
        pointsOnAnUprightWay();
        pointsInTheRowOfAPlace();
    }

    /** A way that goes up through points at 500 is not beyond them: they are IN if it is on the left. */
    private static void pointsOnAnUprightWay() {
        SherdTable x = new SherdTable();
        closed(x, 0, 4, 1, 20, 1, 0, 9, 6, 10, 12, 10, 18, 10);
        closed(x, 0, 8, 1, 0, 2, 8, 2, 12, 1, 18, 2);
        square(x, 0, 10);
        due("hand(0, 1, 1, 0, 1)", x.hand(0, 1, 1, 0, 1), 0);
        where(x, 1, 0, 1000, 0);
        due("join(0, 3, 2, 3, 0)", x.join(0, 3, 2, 3, 0), -6);
        due("lies(0)", x.lies(0), 0);
        due("lies(1)", x.lies(1), 1);
        due("lies(2)", x.lies(2), 4);
        yes("tell(3, 4)", x.tell(3, 4));
        due("join(0, 3, 2, 3, 0) with SHARE 4", x.join(0, 3, 2, 3, 0), 1);
    }

    /** The row at 500 goes through a place: of the two ways that meet there just one crosses it. */
    private static void pointsInTheRowOfAPlace() {
        SherdTable x = new SherdTable();
        closed(x, 0, 2, 1, 10, 1, 18, 1);
        closed(x, 0, 6, 1, 22, 1, 14, 1);
        yes("tell(0, 1)", x.tell(0, 1));
        yes("tell(3, 0)", x.tell(3, 0));
        due("join(0, 0, 1, 2, 0)", x.join(0, 0, 1, 2, 0), -6);
        due("lies(2)", x.lies(2), 1);
        yes("tell(3, 1)", x.tell(3, 1));
        due("join(0, 0, 1, 2, 0) with SHARE 1", x.join(0, 0, 1, 2, 0), 0);
    }

    private static void liesByOrder() {
        SherdTable x = new SherdTable();
        closed(x, 1, 0, 12, 11, 6, 13, 6);
        closed(x, 1, 0, 12, 13, 6, 11, 6);
        for (int k = 1; k < 3; k++) {
            yes("mark", x.mark(0, k, true));
            yes("mark", x.mark(1, k, true));
        }
        due("spans(0, 1)", x.spans(0, 1), 1);
        due("order()", x.order(), 0);
        due("lies(0) by order()", x.lies(0), 0);
        due("lies(1) by order()", x.lies(1), 1);
        due("lies(2) by order()", x.lies(2), 8);
        due("groups()", x.groups(), 2);
        yes("tell(3, 8)", x.tell(3, 8));
        due("order() with SHARE 8", x.order(), 1);
    }

    private static void promise25() {
        place = "promise 25";
        SherdTable x = squares(2);
        due("order(), none is SURE", x.order(), 0);
        due("groups()", x.groups(), 2);
        SherdTable y = oneSpanApart();
        due("order()", y.order(), 1);
        long[] want = {0, 0, 1, 0, 12, 1, 0, 0};
        for (int what = 0; what < 8; what++) {
            due("joined(0, " + what + ")", y.joined(0, what), want[what]);
        }
        due("order() again", y.order(), 0);
        due("undo(1)", y.undo(1), 0);
        due("order()", y.order(), 1);
        SherdTable z = oneSpanApart();
        closed(z, 0, 0, 12, 11, 6, 13, 6);
        due("order(), three that fit alike", z.order(), 0);
        SherdTable w = oneSpanApart();
        open(w, 0, 0, 12, 11, 6, 13, 6);
        due("order(), the third one is open", w.order(), 1);
        due("joined(0, 2)", w.joined(0, 2), 1);
        orderGoesOn();
    }

    /** Just one BREAK of 12 units and one of 8 fit: the longer one comes first, whatever the numbers are. */
    private static void orderGoesOn() {
        SherdTable x = new SherdTable();
        closed(x, 1, 0, 8, 6, 9, 12, 8, 18, 9);
        closed(x, 1, 0, 8, 6, 12, 12, 8, 18, 12);
        closed(x, 1, 0, 10, 6, 12, 12, 10, 18, 12);
        for (int s = 0; s < 3; s++) {
            for (int k = 0; k < 4; k++) {
                boolean breaks = s == 0 && k == 0 || s == 1 && k >= 2 || s == 2 && k == 1;
                yes("mark", x.mark(s, k, !breaks));
            }
        }
        due("order()", x.order(), 2);
        long[][] want = {{1, 3, 2, 1, 0, 1, 0, 0}, {0, 0, 1, 2, 0, 1, 0, 0}};
        for (int k = 0; k < 2; k++) {
            for (int what = 0; what < 8; what++) {
                due("joined(" + k + ", " + what + ")", x.joined(k, what), want[k][what]);
            }
        }
        where(x, 1, 0, 0, -12000);
        where(x, 2, 0, -10000, -12000);
        due("groups()", x.groups(), 1);
        orderOfEqualSpans();
    }

    /** Colours let three steps fit, each one other: all alike but for a, b, i, by which they are ordered. */
    private static void orderOfEqualSpans() {
        SherdTable x = new SherdTable();
        int[][] colours = {{1, 2, 3, 3}, {5, 4, 2, 4}, {7, 7, 5, 7}, {6, 6, 1, 6}};
        for (int s = 0; s < 4; s++) {
            square(x, 3, 10);
            for (int k = 0; k < 4; k++) {
                yes("paint", x.paint(s, k, colours[s][k]));
            }
        }
        due("order()", x.order(), 3);
        long[][] want = {{0, 1, 1, 2, 6}, {0, 0, 3, 2, 0}, {1, 0, 2, 2, 0}};
        for (int k = 0; k < 3; k++) {
            for (int what = 0; what < 5; what++) {
                due("joined(" + k + ", " + what + ")", x.joined(k, what), want[k][what]);
            }
        }
        longerOnesHinder();
        fullTable();
    }

    /** A longer SPAN on one of its steps, or one as long, keeps another from being SURE. */
    private static void longerOnesHinder() {
        SherdTable x = new SherdTable();
        square(x, 3, 10);
        closed(x, 3, 0, 12, 6, 10, 12, 12, 18, 10);
        closed(x, 3, 0, 12, 6, 11, 12, 12, 18, 11);
        int[][] colours = {{1, 2, 2, 2}, {3, 1, 4, 5}, {4, 6, 6, 6}};
        for (int s = 0; s < 3; s++) {
            for (int k = 0; k < 4; k++) {
                yes("paint", x.paint(s, k, colours[s][k]));
            }
        }
        due("order()", x.order(), 2);
        due("joined(0, 0), the longer one", x.joined(0, 0), 1);
        due("joined(0, 2)", x.joined(0, 2), 2);
        due("joined(1, 0)", x.joined(1, 0), 0);
        due("undo(2)", x.undo(2), 0);
        yes("paint(1, 3, 1), as long on the same step", x.paint(1, 3, 1));
        due("order()", x.order(), 1);
        due("joined(0, 0)", x.joined(0, 0), 1);
        due("groups()", x.groups(), 2);
    }

    /** As many sherds and steps as there may be: all are alike, so that none is SURE. */
    private static void fullTable() {
        SherdTable x = new SherdTable();
        for (int s = 0; s < 12; s++) {
            x.sherd(s % 2 == 0 ? 5 : 0);
            for (int k = 0; k < 20; k++) {
                int up = k < 10 ? 5 : 7;
                due("step " + k, x.step(s, k % 2 == 0 ? up : 24 - up, 12), k + 1);
            }
            due("close(" + s + ")", x.close(s), 0);
        }
        due("order()", x.order(), 0);
        due("hand(10, 0, 11, 19, 20)", x.hand(10, 0, 11, 19, 20), 0);
        due("look(11, 9)", look(x, 11, 9), 20);
        due("spans(10, 11)", x.spans(10, 11), 0);
        due("order()", x.order(), 0);
        due("groups()", x.groups(), 11);
    }

    private static void promise26() {
        place = "promise 26";
        SherdTable x = new SherdTable();
        due("groups()", x.groups(), 0);
        x.sherd(0);
        due("groups() with an open one", x.groups(), 1);
        for (int k = 0; k < 3; k++) {
            square(x, 0, 10);
        }
        due("groups()", x.groups(), 4);
        x.hand(1, 0, 2, 2, 1);
        due("groups()", x.groups(), 3);
        x.hand(3, 0, 2, 0, 1);
        due("groups()", x.groups(), 2);
        x.hand(1, 1, 3, 1, 1);
        due("groups(), one that comes round", x.groups(), 2);
        x.part(0);
        due("groups()", x.groups(), 2);
        x.part(1);
        due("groups()", x.groups(), 3);
        x.undo(1);
        due("groups()", x.groups(), 4);
    }

    private static void promise27() {
        place = "promise 27";
        SherdTable x = new SherdTable();
        due("group(0, 0)", x.group(0, 0), -1);
        square(x, 0, 10);
        square(x, 1, 10);
        square(x, 1, 5);
        square(x, 1, 12);
        open(x, 1, 0, 10, 6, 10, 12, 10);
        x.circle(2, 6);
        x.circle(3, 5);
        x.circle(4, 200);
        due("group(0, 3) without", x.group(0, 3), -1);
        due("group(1, 3), a Rim without", x.group(1, 3), -1);
        due("group(2, 3)", x.group(2, 3), 6283185L * 36 - 50000000);
        due("group(3, 3), nothing is missing", x.group(3, 3), 0);
        due("group(4, 2), an open one", x.group(4, 2), 0);
        due("group(4, 3), an open one", x.group(4, 3), 251327400000L);
        x.hand(3, 0, 1, 2, 1);
        x.hand(0, 0, 3, 2, 1);
        due("group(1, 3)", x.group(1, 3), 0);
        x.hand(2, 0, 0, 1, 1);
        x.hand(2, 1, 0, 2, 1);
        for (int s = 0; s < 4; s++) {
            due("group(" + s + ", 0)", x.group(s, 0), 4);
            due("group(" + s + ", 1)", x.group(s, 1), 4);
            due("group(" + s + ", 2)", x.group(s, 2), 738000000);
            due("group(" + s + ", 3)", x.group(s, 3), 0);
        }
        due("group(4, 0)", x.group(4, 0), 1);
        due("group(4, 1)", x.group(4, 1), 0);
        x.part(1);
        due("group(0, 1)", x.group(0, 1), 2);
        due("group(0, 3), the first Rim with one", x.group(0, 3), 0);
        due("group(3, 0)", x.group(3, 0), 2);
        due("group(3, 2)", x.group(3, 2), 488000000);
        for (int bad : new int[] {-1, 4, MIN, MAX}) {
            due("group(0, " + bad + ")", x.group(0, bad), -1);
        }
        for (int bad : new int[] {-1, 5, MIN, MAX}) {
            due("group(" + bad + ", 0)", x.group(bad, 0), -1);
        }
        firstRimCounts();
    }

    private static void firstRimCounts() {
        SherdTable x = new SherdTable();
        square(x, 1, 10);
        square(x, 1, 10);
        square(x, 1, 10);
        x.circle(1, 30);
        x.circle(2, 40);
        x.hand(0, 0, 1, 2, 1);
        x.hand(0, 1, 2, 3, 1);
        due("group(0, 3)", x.group(0, 3), 6283185L * 900 - 600000000);
        x.part(0);
        due("group(0, 3)", x.group(0, 3), 6283185L * 1600 - 400000000);
        x.part(1);
        due("circle(0, 50)", x.circle(0, 50) ? 1 : 0, 1);
        x.hand(0, 0, 1, 2, 1);
        due("group(1, 3)", x.group(1, 3), 6283185L * 2500 - 400000000);
    }

    private static void promise28() {
        place = "promise 28";
        SherdTable x = squares(5);
        due("undo(0)", x.undo(0), 0);
        due("undo(1)", x.undo(1), -1);
        due("hand", x.hand(0, 0, 1, 2, 1), 0);
        due("hand", x.hand(1, 0, 2, 2, 1), 1);
        due("hand", x.hand(2, 0, 3, 2, 1), 2);
        x.part(0);
        due("hand in place of the first", x.hand(3, 0, 4, 2, 1), 0);
        for (int bad : new int[] {-1, 4, MIN, MAX}) {
            due("undo(" + bad + ")", x.undo(bad), -1);
        }
        due("group(3, 1)", x.group(3, 1), 3);
        due("undo(0)", x.undo(0), 3);
        due("undo(1)", x.undo(1), 2);
        due("joined(0, 0), it was the latest", x.joined(0, 0), -1);
        due("joined(2, 0)", x.joined(2, 0), 2);
        due("edge(4, 2, 4)", edge(x, 4, 2, 4), -1);
        due("look(4, 5)", look(x, 4, 5), 4);
        due("undo(2)", x.undo(2), 0);
        due("groups()", x.groups(), 5);
        due("undo(1)", x.undo(1), -1);
        due("a number that is free", x.join(0, 0, 1, 2, 0), 0);
        due("undo(1)", x.undo(1), 0);
    }
}
