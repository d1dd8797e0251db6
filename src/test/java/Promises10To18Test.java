/** Promises 10 to 18: a test for each sentence that names a case at a bound, or a call that is refused. */
public final class Promises10To18Test {
    private static final int NO = NeedNotJoin.NONE;
    private static final int[] NO_WORLDS = {Integer.MIN_VALUE, -1, 6, Integer.MAX_VALUE};
    private static final String ONE_OF_TWO = "order 2 1;at 0 0 1;";
    private static final String FIELD_OF_4 = "order 2 2;field 1 1;";
    private static final String FIELD_OF_243 = "order 3 5;field 2 1 0 0 0;";

    private Promises10To18Test() {
    }

    public static void main(String[] args) {
        leftAndRight();
        noQuotient();
        quotientRefused();
        ranksOfEachSide();
        ranksRefused();
        powersRefused();
        spanRefused();
        fanoOneOrNought();
        fanoDoesNotDivide();
        fanoThreeOnOneLine();
        fanoTwoAlike();
        fanoRefused();
        partedByNothing();
        partedRefused();
        turnTold();
        turnOntoItself();
        turnRefused();
        unitalTold();
        unitalOntoItself();
        unitalRefused();
        undone();
        redone();
        undoWorld();
        nothingToUndo();
        nothingToRedo();
        Due.end();
    }

    private static void leftAndRight() {
        Due.sentence("Promise 10", "QUOTIENT: z with x z = y (left), or z x = y");
        NeedNotJoin x = Due.told("order 3 2;field 1 1;twist 3 1 0;");
        Due.is("it divides, and does not commute", 2 * x.of(0, 3) + x.of(0, 6), 2);
        for (int y = 0; y < 9; y++) {
            Due.is("left", x.product(0, 8, x.quotient(0, 8, y, true)), y);
            Due.is("right", x.product(0, x.quotient(0, 8, y, false), 8), y);
        }
        Due.is("the greatest element", Due.told(FIELD_OF_243).quotient(0, 1, 242, false), 242);
    }

    private static void noQuotient() {
        Due.sentence("Promise 10", "NONE if there is none, or one can't be");
        NeedNotJoin x = Due.told("order 2 2;at 0 0 1 0;at 0 1 0 1;");
        Due.is("1 z = 3", x.quotient(0, 1, 3, true), 3);
        Due.is("z 1 = 3", x.quotient(0, 1, 3, false), NO);
        Due.is("2 z = 1", x.quotient(0, 2, 1, true), NO);
        Due.is("2 z = 0, the least", x.quotient(0, 2, 0, true), 0);
        Due.is("z 2 = 2, the least of two", x.quotient(0, 2, 2, false), 1);
        for (int y = 0; y < 4; y++) {
            Due.is("0 z = " + y, x.quotient(0, 0, y, true), y == 0 ? 0 : NO);
            Due.is("z 0 = " + y, x.quotient(0, 0, y, false), y == 0 ? 0 : NO);
        }
    }

    private static void quotientRefused() {
        Due.sentence("Promise 10", "or one can't be");
        NeedNotJoin x = Due.told(FIELD_OF_243);
        for (int bad : new int[] {Integer.MIN_VALUE, -1, 243, 244, Integer.MAX_VALUE}) {
            Due.is("by " + bad, x.quotient(0, bad, 1, true), NO);
            Due.is("by " + bad, x.quotient(0, bad, 0, false), NO);
            Due.is("of " + bad, x.quotient(0, 1, bad, true), NO);
            Due.is("of " + bad, x.quotient(0, 1, bad, false), NO);
        }
        for (int w : NO_WORLDS) {
            Due.is("world " + w, x.quotient(w, 0, 0, true), NO);
        }
    }

    private static void ranksOfEachSide() {
        Due.sentence("Promise 11", "RANKS side 0 left, 1 right, 2 third: how many ELEMENTS have rank r");
        NeedNotJoin x = Due.told(FIELD_OF_243);
        NeedNotJoin y = Due.told("order 3 5;");
        for (int side = 0; side < 3; side++) {
            Due.is("a field, rank n", x.ranks(0, side, 5), 242);
            Due.is("a field, rank n less 1", x.ranks(0, side, 4), 0);
            Due.is("a field, rank 0", x.ranks(0, side, 0), 0);
            Due.is("noughts, rank 0", y.ranks(0, side, 0), 242);
            Due.is("noughts, rank 1", y.ranks(0, side, 1), 0);
            Due.is("noughts, rank n", y.ranks(0, side, 5), 0);
            Due.is("noughts of 2, rank 0", y.ranks(1, side, 0), 1);
            Due.is("noughts of 2, rank 1", y.ranks(1, side, 1), 0);
        }
    }

    private static void ranksRefused() {
        Due.sentence("Promise 11", "NONE if one can't be");
        NeedNotJoin x = Due.told("order 3 5;");
        for (int side : new int[] {Integer.MIN_VALUE, -1, 3, 4, Integer.MAX_VALUE}) {
            Due.is("side " + side, x.ranks(0, side, 0), NO);
        }
        for (int side = 0; side < 3; side++) {
            for (int r : new int[] {Integer.MIN_VALUE, -1, 6, Integer.MAX_VALUE}) {
                Due.is("rank " + r, x.ranks(0, side, r), NO);
            }
            Due.is("rank 2 of size 1", x.ranks(1, side, 2), NO);
        }
        for (int w : NO_WORLDS) {
            Due.is("world " + w, x.ranks(w, 0, 0), NO);
        }
    }

    private static void powersRefused() {
        Due.sentence("Promise 12", "POWERS of x; NONE if one can't be");
        NeedNotJoin x = Due.told(FIELD_OF_243);
        Due.is("nought", x.powers(0, 0), 1);
        Due.is("the last, less 1 is a power of it", x.powers(0, 242) > 1, true);
        for (int bad : new int[] {Integer.MIN_VALUE, -1, 243, Integer.MAX_VALUE}) {
            Due.is("of " + bad, x.powers(0, bad), NO);
        }
        Due.is("2 of a world of two", x.powers(1, 2), NO);
        for (int w : NO_WORLDS) {
            Due.is("world " + w, x.powers(w, 0), NO);
        }
    }

    private static void spanRefused() {
        Due.sentence("Promise 13", "SPAN of x, y; NONE if one can't be");
        NeedNotJoin x = Due.told(FIELD_OF_243);
        Due.is("noughts", x.span(0, 0, 0), 1);
        Due.is("the last ones", x.span(0, 242, 242), 243);
        for (int bad : new int[] {Integer.MIN_VALUE, -1, 243, Integer.MAX_VALUE}) {
            Due.is("first " + bad, x.span(0, bad, 0), NO);
            Due.is("second " + bad, x.span(0, 0, bad), NO);
        }
        Due.is("2 of a world of two", x.span(1, 0, 2), NO);
        for (int w : NO_WORLDS) {
            Due.is("world " + w, x.span(w, 0, 0), NO);
        }
    }

    private static void fanoOneOrNought() {
        Due.sentence("Promise 14", "FANO of four POINTS: 1 or 0");
        Due.is("the least plane", Due.told(ONE_OF_TWO).fano(0, 0, 1, 2, 3), 1);
        Due.is("the next", Due.told("order 3 1;at 0 0 1;").fano(0, 0, 1, 3, 4), 0);
        NeedNotJoin x = Due.told(FIELD_OF_243);
        Due.is("the greatest, with its last point", x.fano(0, 0, 244, 59049, 59292), 0);
    }

    private static void fanoDoesNotDivide() {
        Due.sentence("Promise 14", "(it does not DIVIDE");
        NeedNotJoin x = Due.told(ONE_OF_TWO);
        Due.is("it does", x.fano(0, 0, 1, 2, 3), 1);
        Due.is("noughts do not", x.fano(1, 0, 1, 2, 3), NO);
        x.digit(0, 0, 0, 0, 0);
        Due.is("it does no more", x.fano(0, 0, 1, 2, 3), NO);
    }

    private static void fanoThreeOnOneLine() {
        Due.sentence("Promise 14", "three on one LINE");
        NeedNotJoin x = Due.told(FIELD_OF_4);
        int[][] on = {{0, 1, 2}, {0, 4, 8}, {0, 5, 17}, {0, 3, 20}, {16, 18, 20}, {4, 9, 17}};
        int off = 6;
        for (int[] line : on) {
            Due.is("first three", x.fano(0, line[0], line[1], line[2], off), NO);
            Due.is("all but the third", x.fano(0, line[0], line[1], off, line[2]), NO);
            Due.is("all but the second", x.fano(0, line[0], off, line[1], line[2]), NO);
            Due.is("last three", x.fano(0, off, line[0], line[1], line[2]), NO);
        }
        Due.is("all four", x.fano(0, 0, 1, 2, 3), NO);
        Due.is("none of them", x.fano(0, 0, 1, 4, 5), 1);
    }

    private static void fanoTwoAlike() {
        Due.sentence("Promise 14", "two alike");
        NeedNotJoin x = Due.told("order 3 1;at 0 0 1;");
        int[] four = {0, 1, 3, 4};
        Due.is("none alike", x.fano(0, 0, 1, 3, 4), 0);
        for (int u = 0; u < 4; u++) {
            for (int v = 0; v < 4; v++) {
                int[] points = four.clone();
                points[u] = points[v];
                int due = u == v ? 0 : NO;
                Due.is(u + " as " + v, x.fano(0, points[0], points[1], points[2], points[3]), due);
            }
        }
    }

    private static void fanoRefused() {
        Due.sentence("Promise 14", "NONE if one can't be");
        NeedNotJoin x = Due.told(FIELD_OF_4);
        Due.is("with the last point", x.fano(0, 0, 5, 16, 20), 1);
        for (int bad : new int[] {Integer.MIN_VALUE, -1, 21, 22, Integer.MAX_VALUE}) {
            Due.is("first " + bad, x.fano(0, bad, 1, 4, 5), NO);
            Due.is("second " + bad, x.fano(0, 0, bad, 4, 5), NO);
            Due.is("third " + bad, x.fano(0, 0, 1, bad, 5), NO);
            Due.is("fourth " + bad, x.fano(0, 0, 1, 4, bad), NO);
        }
        for (int w : NO_WORLDS) {
            Due.is("world " + w, x.fano(w, 0, 1, 4, 5), NO);
        }
    }

    private static void partedByNothing() {
        Due.sentence("Promise 15", "What PARTS two WORLDS; NONE if nothing of this");
        NeedNotJoin x = Due.told("order 3 2;field 1 1;");
        Due.text(x, 1, "order 3 2;field 2 0;");
        Due.is("itself", x.parted(0, 0), NO);
        Due.is("its like", x.parted(0, 1), NO);
        Due.is("worlds as at first", x.parted(4, 5), NO);
        Due.text(x, 2, "order 3 2;");
        Due.is("noughts", x.parted(0, 2), 0);
        Due.is("the other way round", x.parted(2, 0), 0);
    }

    private static void partedRefused() {
        Due.sentence("Promise 15", "NONE - 1 if one can't be");
        NeedNotJoin x = Due.told("order 2 2;");
        Due.text(x, 1, "order 3 2;");
        Due.text(x, 2, "order 2 3;");
        Due.is("p unlike", x.parted(0, 1), NO - 1);
        Due.is("n unlike", x.parted(0, 2), NO - 1);
        Due.is("n unlike", x.parted(2, 0), NO - 1);
        for (int w : NO_WORLDS) {
            Due.is("first " + w, x.parted(w, 0), NO - 1);
            Due.is("second " + w, x.parted(0, w), NO - 1);
            Due.is("both " + w, x.parted(w, w), NO - 1);
        }
    }

    private static void turnTold() {
        Due.sentence("Promise 16", "WORLD b becomes WORLD a turned by W: true");
        NeedNotJoin x = Due.told("order 2 3;at 0 1 0 0 1;");
        Due.text(x, 5, "order 5 2;");
        int[][] due = {{0, 1, 2}, {1, 0, 2}, {2, 1, 0}, {0, 2, 1}, {1, 2, 0}, {2, 0, 1}};
        for (int w = 0; w < 6; w++) {
            Due.is("turn " + w, x.turn(0, 5, w), true);
            Due.is("p of b", x.of(5, 0), 2);
            Due.is("n of b", x.of(5, 1), 3);
            for (int at = 0; at < 27; at++) {
                boolean here = at == due[w][0] * 9 + due[w][1] * 3 + due[w][2];
                Due.is("turn " + w + " at " + at, x.cube(5, at / 9, at / 3 % 3, at % 3), here ? 1 : 0);
            }
            Due.is("a stays", x.cube(0, 0, 1, 2), 1);
        }
        Due.is("each an act", x.look(0), 8);
    }

    private static void turnOntoItself() {
        Due.sentence("Promise 16", "WORLD b becomes WORLD a turned by W");
        for (int w = 0; w < 6; w++) {
            NeedNotJoin x = Due.told("order 2 3;at 0 1 0 0 1;");
            x.turn(0, 1, w);
            Due.is("onto itself", x.turn(0, 0, w), true);
            for (int at = 0; at < 27; at++) {
                int cell = x.cube(1, at / 9, at / 3 % 3, at % 3);
                Due.is("turn " + w + " at " + at, x.cube(0, at / 9, at / 3 % 3, at % 3), cell);
            }
            Due.is("undone", x.undo(true), 0);
            Due.is("as it was", x.cube(0, 0, 1, 2), 1);
        }
    }

    private static void turnRefused() {
        Due.sentence("Promise 16", "false if one can't be");
        NeedNotJoin x = Due.told("order 3 2;at 0 1 2 1;");
        x.digit(1, 0, 0, 0, 1);
        x.undo(true);
        String before = Due.state(x);
        for (int w : NO_WORLDS) {
            Due.is("from " + w, x.turn(w, 0, 0), false);
            Due.is("to " + w, x.turn(0, w, 0), false);
            Due.is("by " + w, x.turn(0, 1, w), false);
            Due.is("by " + w + " onto itself", x.turn(0, 0, w), false);
        }
        Due.stays("none of these", x, before);
        Due.is("the last way", x.turn(0, 1, 5), true);
    }

    private static void unitalTold() {
        Due.sentence("Promise 17", "WORLD b becomes WORLD a UNITAL by e: its UNIT");
        NeedNotJoin x = Due.told("order 2 1;at 0 0 1;");
        Due.is("the least", x.unital(0, 5, 1), 1);
        Due.is("b", x.of(5, 5), 1);
        Due.text(x, 0, "order 3 2;field 1 1;twist 3 1 0;");
        Due.is("by the last element", x.unital(0, 5, 8), x.product(0, 8, 8));
        Due.is("p of b", x.of(5, 0), 3);
        Due.is("n of b", x.of(5, 1), 2);
        for (int u = 0; u < 9; u++) {
            for (int v = 0; v < 9; v++) {
                int got = x.product(5, x.product(0, u, 8), x.product(0, 8, v));
                Due.is("(x e) * (e y)", got, x.product(0, u, v));
            }
        }
        Due.is("an act each", x.look(0), 4);
    }

    private static void unitalOntoItself() {
        Due.sentence("Promise 17", "WORLD b becomes WORLD a UNITAL by e");
        NeedNotJoin x = Due.told("order 3 2;field 1 1;twist 3 1 0;");
        x.unital(0, 1, 5);
        int square = x.product(0, 5, 5);
        Due.is("onto itself", x.unital(0, 0, 5), square);
        Due.is("its unit", x.of(0, 5), square);
        for (int at = 0; at < 8; at++) {
            Due.is("its cube", x.cube(0, at / 4, at / 2 % 2, at % 2), x.cube(1, at / 4, at / 2 % 2, at % 2));
        }
        Due.is("undone", x.undo(true), 0);
        Due.is("as it was", x.product(0, 5, 5), square);
        Due.is("without a unit", x.of(0, 5), NO);
    }

    private static void unitalRefused() {
        Due.sentence("Promise 17", "NONE if one can't be");
        NeedNotJoin x = Due.told(FIELD_OF_4);
        x.digit(1, 0, 0, 0, 1);
        x.undo(true);
        String before = Due.state(x);
        for (int bad : new int[] {Integer.MIN_VALUE, -1, 0, 4, Integer.MAX_VALUE}) {
            Due.is("by " + bad, x.unital(0, 2, bad), NO);
        }
        for (int w : NO_WORLDS) {
            Due.is("from " + w, x.unital(w, 2, 1), NO);
            Due.is("to " + w, x.unital(0, w, 1), NO);
        }
        Due.is("noughts", x.unital(3, 2, 1), NO);
        Due.stays("none of these", x, before);
        Due.is("the last element", x.unital(0, 2, 3), 2);
    }

    private static void undone() {
        Due.sentence("Promise 18", "The latest ACT is undone (back true)");
        NeedNotJoin x = Due.told("order 3 5;field 2 1 0 0 0;");
        Due.text(x, 0, "order 2 1;");
        x.digit(0, 0, 0, 0, 1);
        Due.is("the digit", x.undo(true), 0);
        Due.is("nought again", x.cube(0, 0, 0, 0), 0);
        Due.is("the text", x.undo(true), 0);
        Due.is("the order again", x.of(0, 2), 243);
        Due.is("the field again", x.product(0, 81, 3), 2 + 3);
        Due.is("it divides again", x.of(0, 3), 1);
        Due.is("the first text", x.undo(true), 0);
        Due.is("as at first", x.of(0, 2), 2);
        Due.is("it divides no more", x.of(0, 3), 0);
    }

    private static void redone() {
        Due.sentence("Promise 18", "or the latest undone one redone (false)");
        NeedNotJoin x = Due.told(FIELD_OF_4);
        x.digit(1, 0, 0, 0, 1);
        x.turn(0, 2, 0);
        x.undo(true);
        x.undo(true);
        x.undo(true);
        Due.is("the text", x.undo(false), 0);
        Due.is("told again", x.product(0, 2, 2), 3);
        Due.is("not yet the digit", x.cube(1, 0, 0, 0), 0);
        Due.is("the digit", x.undo(false), 1);
        Due.is("told again", x.cube(1, 0, 0, 0), 1);
        Due.is("not yet the turn", x.of(2, 2), 2);
        Due.is("undone again", x.undo(true), 1);
        Due.is("redone again", x.undo(false), 1);
        Due.is("the turn", x.undo(false), 2);
        Due.is("told again", x.product(2, 2, 2), 3);
    }

    private static void undoWorld() {
        Due.sentence("Promise 18", "the WORLD; NONE if there is none");
        NeedNotJoin x = Due.told(FIELD_OF_4);
        x.digit(5, 0, 0, 0, 1);
        x.turn(0, 4, 0);
        x.unital(0, 3, 1);
        x.take(2, 2, 0, 2);
        Due.text(x, 1, "order 3 1;");
        int[] worlds = {0, 5, 4, 3, 2, 1};
        for (int at = 5; at >= 0; at--) {
            Due.is("undone, the one told, not the one from", x.undo(true), worlds[at]);
        }
        Due.is("no more", x.undo(true), NO);
        for (int at = 0; at < 6; at++) {
            Due.is("redone", x.undo(false), worlds[at]);
        }
        Due.is("no more", x.undo(false), NO);
    }

    private static void nothingToUndo() {
        Due.sentence("Promise 18", "NONE if there is none");
        NeedNotJoin x = new NeedNotJoin();
        Due.is("of a new object", x.undo(true), NO);
        x.map(0, 0, 1);
        x.digit(0, 0, 0, 0, 2);
        Due.is("behind a map and a refused call", x.undo(true), NO);
        for (int act = 1; act <= 21; act++) {
            x.digit(act % 6, 0, 0, 0, 1);
        }
        for (int act = 21; act > 1; act--) {
            Due.is("act " + act, x.undo(true), act % 6);
        }
        String before = Due.state(x);
        Due.is("the first of 21", x.undo(true), NO);
        Due.stays("that", x, before);
        Due.is("its digit stays", x.cube(1, 0, 0, 0), 1);
        Due.is("all twenty can be redone", x.look(1), 20);
        for (int act = 2; act <= 21; act++) {
            Due.is("act " + act + " again", x.undo(false), act % 6);
        }
        Due.is("no more", x.undo(false), NO);
    }

    private static void nothingToRedo() {
        Due.sentence("Promise 18", "the latest undone one redone (false): the WORLD; NONE if there is none");
        NeedNotJoin x = new NeedNotJoin();
        Due.is("of a new object", x.undo(false), NO);
        x.digit(0, 0, 0, 0, 1);
        Due.is("nothing undone", x.undo(false), NO);
        x.undo(true);
        x.digit(1, 0, 0, 0, 0);
        String before = Due.state(x);
        Due.is("another act behind it", x.undo(false), NO);
        Due.stays("that", x, before);
        Due.is("the digit stays undone", x.cube(0, 0, 0, 0), 0);
    }
}
