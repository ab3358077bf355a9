import java.util.NoSuchElementException;

/** What the tests have in common: answers counted and compared, and sherds that many of them use. */
abstract class Bench {
    static final int MIN = Integer.MIN_VALUE;
    static final int MAX = Integer.MAX_VALUE;
    static final int NO_NUMBER = 0x7fc00000;
    static final long OUTSIDE = -1000001L;
    static final long NO_ELEMENT = -1000002L;
    static final int TURNED_OTHERWISE = 1000000000;

    /** What is being tested, for the lines that tell of wrong answers. */
    static String place = "";
    static int asked = 0;
    static int wrong = 0;

    static void due(String call, long got, long want) {
        asked++;
        if (got != want) {
            tellWrong(call + " answered " + got + ", due is " + want);
        }
    }

    static void tellWrong(String text) {
        wrong++;
        System.out.println(place + ": " + text);
    }

    static void yes(String call, boolean got) {
        due(call, got ? 1 : 0, 1);
    }

    static void no(String call, boolean got) {
        due(call, got ? 1 : 0, 0);
    }

    static void end() {
        System.out.println(asked + " answers looked at");
        System.out.println(wrong == 0 ? "all answers are as due" : wrong + " answers are not as due");
        if (wrong != 0) {
            System.exit(1);
        }
    }

    static long look(SherdTable x, int sherd, int what) {
        try {
            return x.look(sherd, what);
        } catch (IndexOutOfBoundsException e) {
            return OUTSIDE;
        } catch (NoSuchElementException e) {
            return NO_ELEMENT;
        }
    }

    static long edge(SherdTable x, int sherd, int step, int what) {
        try {
            return x.edge(sherd, step, what);
        } catch (IndexOutOfBoundsException e) {
            return OUTSIDE;
        } catch (NoSuchElementException e) {
            return NO_ELEMENT;
        }
    }

    /** Steps are told as direction, length, direction, length and so on; the edge is left open. */
    static int open(SherdTable x, int kind, int... steps) {
        int sherd = x.sherd(kind);
        for (int k = 0; k + 1 < steps.length; k += 2) {
            due("step " + k / 2 + " of sherd " + sherd, x.step(sherd, steps[k], steps[k + 1]), k / 2 + 1);
        }
        return sherd;
    }

    static int closed(SherdTable x, int kind, int... steps) {
        int sherd = open(x, kind, steps);
        due("close of sherd " + sherd, x.close(sherd), 0);
        return sherd;
    }

    static int square(SherdTable x, int kind, int side) {
        return closed(x, kind, 0, side, 6, side, 12, side, 18, side);
    }

    /** A square that goes the other way round: gone back, it goes as square() does, and lies on it. */
    static int backSquare(SherdTable x, int kind, int side) {
        return closed(x, kind, 18, side, 12, side, 6, side, 0, side);
    }

    static int triangle(SherdTable x, int kind, int side) {
        return closed(x, kind, 0, side, 8, side, 16, side);
    }

    static int twelveSided(SherdTable x, int kind, int side) {
        int sherd = x.sherd(kind);
        for (int k = 0; k < 12; k++) {
            x.step(sherd, 2 * k, side);
        }
        due("close of sherd " + sherd, x.close(sherd), 0);
        return sherd;
    }

    static SherdTable squares(int count) {
        SherdTable x = new SherdTable();
        for (int k = 0; k < count; k++) {
            square(x, 0, 10);
        }
        return x;
    }

    /** A square of a Rim with just one step that is a BREAK. */
    static int oneBreak(SherdTable x, int side, int breaks) {
        int sherd = square(x, 1, side);
        for (int k = 0; k < 4; k++) {
            yes("mark(" + sherd + ", " + k + ")", x.mark(sherd, k, k != breaks));
        }
        return sherd;
    }

    static void paintAll(SherdTable x, int sherd, int... colours) {
        for (int k = 0; k < colours.length; k++) {
            yes("paint(" + sherd + ", " + k + ", " + colours[k] + ")", x.paint(sherd, k, colours[k]));
        }
    }

    static void thicks(SherdTable x, double... values) {
        for (int k = 0; k < values.length; k++) {
            yes("thick of sherd " + k, x.thick(k, bits(values[k])));
        }
    }

    static int bits(double value) {
        return Float.floatToRawIntBits((float) value);
    }

    static void where(SherdTable x, int sherd, int turn, int atX, int atY) {
        due("look(" + sherd + ", 6)", look(x, sherd, 6), turn);
        due("look(" + sherd + ", 7)", look(x, sherd, 7), atX);
        due("look(" + sherd + ", 8)", look(x, sherd, 8), atY);
    }

    /** What joined() tells of a JOIN, from what 0 on. */
    static void joinIs(SherdTable x, int join, int... want) {
        for (int what = 0; what < want.length; what++) {
            due("joined(" + join + ", " + what + ")", x.joined(join, what), want[what]);
        }
    }

    static void liesIs(SherdTable x, int lesser, int greater, int points) {
        due("lies(0)", x.lies(0), lesser);
        due("lies(1)", x.lies(1), greater);
        due("lies(2)", x.lies(2), points);
    }

    static void spanIs(SherdTable x, int k, int... want) {
        for (int what = 0; what < want.length; what++) {
            due("span(" + k + ", " + what + ")", x.span(k, what), want[what]);
        }
    }

    /** All that can be asked of a small table, to see that a refused call changed nothing. */
    static String everything(SherdTable x) {
        StringBuilder all = new StringBuilder().append(x.groups()).append(' ').append(x.round());
        for (int s = 0; look(x, s, 0) != OUTSIDE; s++) {
            for (int what = 1; what < 10; what++) {
                all.append(' ').append(look(x, s, what));
            }
            for (int k = 0; k < look(x, s, 1); k++) {
                for (int what = 0; what < 5; what++) {
                    all.append(' ').append(edge(x, s, k, what));
                }
            }
            all.append(' ').append(x.group(s, 1)).append(' ').append(x.group(s, 3));
        }
        for (int q = 0; q < 4; q++) {
            for (int what = 0; what < 8; what++) {
                all.append(' ').append(x.joined(q, what));
            }
        }
        for (int what = 0; what < 3; what++) {
            all.append(' ').append(x.lies(what)).append(' ').append(x.fitted(what)).append(' ').append(x.span(0, what));
        }
        return all.toString();
    }

    static void unchanged(String before, SherdTable x) {
        String now = everything(x);
        asked++;
        if (!now.equals(before)) {
            tellWrong("a refused call changed the table\n    from " + before + "\n    to   " + now);
        }
    }

    /** Eight twelve-sided sherds and as many JOINS by hand, each of one pair, all number k at k. */
    static SherdTable joinedByHand(int count) {
        SherdTable x = new SherdTable();
        for (int k = 0; k < 8; k++) {
            twelveSided(x, 0, 6);
        }
        for (int k = 0; k < count; k++) {
            int a = k / 12 * 2;
            due("hand " + k, x.hand(a, k % 12, a + 1, k % 12, 1), k);
        }
        return x;
    }
}
