/** Promises 19 to 27: a test for each sentence that names a case at a bound, or a call that is refused. */
public final class Promises19To27Test {
    private static final int NO = NeedNotJoin.NONE;
    private static final int[] NO_WORLDS = {Integer.MIN_VALUE, -1, 6, Integer.MAX_VALUE};
    private static final String ONE_OF_TWO = "order 2 1;at 0 0 1;";
    private static final String FIELD_OF_4 = "order 2 2;field 1 1;";
    private static final String FIELD_OF_16 = "order 2 4;field 1 1 0 0;";

    private Promises19To27Test() {
    }

    public static void main(String[] args) {
        mapTold();
        mapRefused();
        carriesOrFails();
        carryUnlike();
        imageNotBelowOrder();
        sameRefused();
        isotopesRefused();
        planeEachWhat();
        planeDoesNotDivide();
        planeTheSameOne();
        planeRefused();
        listEachWhat();
        listRefused();
        takeTold();
        takeNoneSuch();
        takeRefused();
        imageTaken();
        imageNone();
        actsUndone();
        actsRedone();
        imagesOfBaseElements();
        lookRefused();
        Due.end();
    }

    private static void mapTold() {
        Due.sentence("Promise 19", "The image of BASE ELEMENT i (0 .. 4) by a MAP is an ELEMENT (0 .. 242): true");
        for (int m = 0; m < 3; m++) {
            for (int i = 0; i < 5; i++) {
                NeedNotJoin x = new NeedNotJoin();
                Due.is("the greatest", x.map(m, i, 242), true);
                Due.is("there", x.look(10 + 5 * m + i), 242);
                Due.is("the least", x.map(m, i, 0), true);
                Due.is("there", x.look(10 + 5 * m + i), 0);
                for (int at = 10; at < 25; at++) {
                    Due.is("no other", x.look(at), at == 10 + 5 * m + i ? 0 : NO);
                }
                Due.is("no act", x.look(0), 0);
            }
        }
    }

    private static void mapRefused() {
        Due.sentence("Promise 19", "false if one can't be");
        NeedNotJoin x = new NeedNotJoin();
        x.map(2, 4, 7);
        x.map(0, 0, 5);
        String before = Due.state(x);
        for (int bad : new int[] {Integer.MIN_VALUE, -1, 243, 244, Integer.MAX_VALUE}) {
            Due.is("image " + bad, x.map(0, 0, bad), false);
            Due.is("image " + bad, x.map(2, 4, bad), false);
        }
        for (int bad : new int[] {Integer.MIN_VALUE, -1, 5, 6, Integer.MAX_VALUE}) {
            Due.is("base element " + bad, x.map(0, bad, 1), false);
            Due.is("base element " + bad, x.map(2, bad, 1), false);
        }
        for (int bad : new int[] {Integer.MIN_VALUE, -1, 3, 4, Integer.MAX_VALUE}) {
            Due.is("map " + bad, x.map(bad, 0, 1), false);
            Due.is("map " + bad, x.map(bad, 4, 1), false);
        }
        Due.stays("none of these", x, before);
    }

    private static void carriesOrFails() {
        Due.sentence("Promise 20", "NONE if they carry a to b, else what fails");
        NeedNotJoin x = Due.told(FIELD_OF_4);
        Due.text(x, 1, "order 2 2;field 1 1;at 1 1 0 1;");
        Due.is("itself", x.carry(0, 0), NO);
        Due.is("the last couple fails", x.carry(0, 1), 6);
        Due.is("the other way round", x.carry(1, 0), 6);
        x.map(0, 1, 3);
        Due.is("t and 1 fail", x.carry(0, 0), 5);
        x.map(1, 0, 0);
        Due.is("G is not one to one", x.carry(0, 0), 101);
        NeedNotJoin y = Due.told("order 3 2;field 1 1;");
        Due.text(y, 1, "order 3 2;field 2 0;");
        y.map(0, 1, 4);
        y.map(1, 1, 4);
        y.map(2, 1, 4);
        Due.is("1 + t squared is 2 t, not 2 + t", y.carry(0, 1), 6);
        y.map(0, 1, 5);
        y.map(1, 1, 5);
        y.map(2, 1, 5);
        Due.is("2 + t squared is t, which is 1 and 2 + t", y.carry(0, 1), NO);
    }

    private static void carryUnlike() {
        Due.sentence("Promise 20", "NONE - 1 if one can't be (p, n unlike");
        NeedNotJoin x = Due.told("order 2 2;");
        Due.text(x, 1, "order 3 2;");
        Due.text(x, 2, "order 2 3;");
        Due.is("p unlike", x.carry(0, 1), NO - 1);
        Due.is("n unlike", x.carry(0, 2), NO - 1);
        Due.is("n unlike", x.carry(2, 0), NO - 1);
        x.map(0, 0, 0);
        Due.is("ahead of maps that are not one to one", x.carry(0, 2), NO - 1);
        for (int w : NO_WORLDS) {
            Due.is("from " + w, x.carry(w, 0), NO - 1);
            Due.is("to " + w, x.carry(0, w), NO - 1);
        }
    }

    private static void imageNotBelowOrder() {
        Due.sentence("Promise 20", "an image not below ORDER");
        for (int m = 0; m < 3; m++) {
            for (int i = 0; i < 2; i++) {
                NeedNotJoin x = Due.told("order 3 2;");
                x.map(m, i, 8);
                Due.is("the last element", x.carry(0, 0), NO);
                x.map(m, i, 9);
                Due.is("one behind it", x.carry(0, 0), NO - 1);
                x.map(m, i, 242);
                Due.is("the greatest of all", x.carry(0, 0), NO - 1);
                x.map(0, 1 - i, 0);
                Due.is("ahead of a map that is not one to one", x.carry(0, 0), NO - 1);
            }
            NeedNotJoin y = Due.told("order 3 2;");
            y.map(m, 2, 242);
            Due.is("of a base element that is none of it", y.carry(0, 0), NO);
        }
        NeedNotJoin z = Due.told("order 3 5;");
        z.map(0, 4, 242);
        Due.is("242 of 243", z.carry(0, 0), NO);
    }

    private static void sameRefused() {
        Due.sentence("Promise 21", "SAMENESS; NONE if one can't be");
        NeedNotJoin x = Due.told("order 3 3;field 2 1 0;");
        Due.is("27", x.same(0, 0), 3);
        Due.text(x, 1, "order 2 5;field 1 0 1 0 0;");
        Due.is("32", x.same(1, 1), NO);
        Due.is("n unlike", x.same(0, 1), NO);
        Due.is("of a new one", x.same(4, 5), 1);
        for (int w : NO_WORLDS) {
            Due.is("from " + w, x.same(w, 0), NO);
            Due.is("to " + w, x.same(0, w), NO);
        }
    }

    private static void isotopesRefused() {
        Due.sentence("Promise 22", "ISOTOPES; NONE if one can't be");
        NeedNotJoin x = Due.told(FIELD_OF_16);
        Due.is("16", x.isotopes(0, 0), 900);
        Due.text(x, 1, "order 5 2;field 2 0;");
        Due.is("25", x.isotopes(1, 1), NO);
        Due.text(x, 2, "order 2 3;field 1 1 0;");
        Due.is("n unlike", x.isotopes(0, 2), NO);
        Due.text(x, 2, "order 3 1;at 0 0 1;");
        Due.text(x, 3, ONE_OF_TWO);
        Due.is("p unlike", x.isotopes(2, 3), NO);
        Due.is("3", x.isotopes(2, 2), 4);
        Due.is("it does not divide", x.isotopes(5, 5), NO);
        for (int w : NO_WORLDS) {
            Due.is("from " + w, x.isotopes(w, 0), NO);
            Due.is("to " + w, x.isotopes(0, w), NO);
        }
    }

    private static void planeEachWhat() {
        Due.sentence("Promise 23", "what 0 JOIN of two POINTS, 1 MEET of two LINES, 2 1 if POINT u is on LINE v, else 0");
        NeedNotJoin x = Due.told("order 3 1;at 0 0 1;");
        Due.is("join of (0, 1) and (1, 0): 2 x + 1", x.plane(0, 1, 3, 0), 7);
        Due.is("join of the last two points", x.plane(0, 11, 12, 0), 12);
        Due.is("join of the last point and the first", x.plane(0, 12, 0, 0), 9);
        Due.is("meet of x + 1 and 2 x", x.plane(0, 4, 6, 1), 5);
        Due.is("meet of x and x + 1", x.plane(0, 3, 4, 1), 10);
        Due.is("meet of the last two lines", x.plane(0, 12, 11, 1), 12);
        Due.is("meet of the last line and the first", x.plane(0, 12, 0, 1), 9);
        Due.is("on", x.plane(0, 12, 12, 2), 1);
        Due.is("not on", x.plane(0, 12, 0, 2), 0);
        NeedNotJoin y = Due.told("order 3 5;field 2 1 0 0 0;");
        Due.is("join of the last two of 59293", y.plane(0, 59291, 59292, 0), 59292);
        Due.is("meet of the last two of 59293", y.plane(0, 59291, 59292, 1), 59292);
        Due.is("join of (242, 242) and slope 242", y.plane(0, 59048, 59291, 0) / 243, 242);
    }

    private static void planeDoesNotDivide() {
        Due.sentence("Promise 23", "NONE if one can't be (it does not DIVIDE");
        NeedNotJoin x = Due.told(ONE_OF_TWO);
        for (int what = 0; what < 3; what++) {
            Due.is("it does, what " + what, x.plane(0, 0, 1, what) >= 0, true);
            Due.is("noughts do not, what " + what, x.plane(1, 0, 1, what), NO);
        }
        Due.text(x, 2, "order 2 2;at 0 0 1 0;at 0 1 0 1;at 1 0 0 1;at 1 1 1 0;");
        Due.is("one couple fails", x.plane(2, 0, 1, 0), NO);
    }

    private static void planeTheSameOne() {
        Due.sentence("Promise 23", "0, 1: the same one");
        NeedNotJoin x = Due.told(FIELD_OF_4);
        for (int u = 0; u < 21; u++) {
            Due.is("join of " + u, x.plane(0, u, u, 0), NO);
            Due.is("meet of " + u, x.plane(0, u, u, 1), NO);
            Due.is("on is no such case: " + u, x.plane(0, u, u, 2) >= 0, true);
        }
        Due.is("(0, 0) is on y = 0", x.plane(0, 0, 0, 2), 1);
    }

    private static void planeRefused() {
        Due.sentence("Promise 23", "or another what");
        NeedNotJoin x = Due.told(FIELD_OF_4);
        for (int what : new int[] {Integer.MIN_VALUE, -1, 3, 4, Integer.MAX_VALUE}) {
            Due.is("what " + what, x.plane(0, 0, 1, what), NO);
            Due.is("what " + what + " of the same", x.plane(0, 1, 1, what), NO);
        }
        for (int what = 0; what < 3; what++) {
            for (int bad : new int[] {Integer.MIN_VALUE, -1, 21, 22, Integer.MAX_VALUE}) {
                Due.is("first " + bad, x.plane(0, bad, 1, what), NO);
                Due.is("second " + bad, x.plane(0, 1, bad, what), NO);
            }
            for (int w : NO_WORLDS) {
                Due.is("world " + w, x.plane(w, 0, 1, what), NO);
            }
            Due.is("the last and the first", x.plane(0, 20, 0, what) >= 0, true);
        }
    }

    private static void listEachWhat() {
        Due.sentence("Promise 24", "LISTS for p, n what 0 how many, 1 those that COMMUTE, 2 those that JOIN");
        NeedNotJoin x = new NeedNotJoin();
        int[][] due = {{2, 2, 1}, {2, 3, 8}, {3, 2, 3}, {5, 2, 10}};
        for (int[] one : due) {
            for (int what = 0; what < 3; what++) {
                Due.is("list " + one[0] + " " + one[1] + " " + what, x.list(one[0], one[1], what), one[2]);
            }
        }
        Due.is("asked again", x.list(5, 2, 0), 10);
        Due.is("no act", x.look(0), 0);
    }

    private static void listRefused() {
        Due.sentence("Promise 24", "NONE if one can't be, or another what");
        NeedNotJoin x = new NeedNotJoin();
        for (int what : new int[] {Integer.MIN_VALUE, -1, 3, 4, Integer.MAX_VALUE}) {
            Due.is("what " + what, x.list(2, 2, what), NO);
            Due.is("what " + what, x.list(2, 3, what), NO);
        }
        int[][] none = {{2, 1}, {2, 4}, {2, 5}, {3, 1}, {3, 3}, {5, 1}, {5, 3}, {4, 2}, {7, 2}, {1, 2}, {0, 2}, {-2, 2},
            {2, -2}, {2, 0}, {3, 0}, {0, 0}, {Integer.MIN_VALUE, 2}, {Integer.MAX_VALUE, 2}, {2, Integer.MAX_VALUE},
            {2, Integer.MIN_VALUE}};
        for (int[] one : none) {
            Due.is("list " + one[0] + " " + one[1], x.list(one[0], one[1], 0), NO);
        }
    }

    private static void takeTold() {
        Due.sentence("Promise 25", "The i-th of LISTS for p, n comes to WORLD w (an ACT): true");
        NeedNotJoin x = Due.told("order 3 5;");
        Due.is("the only one", x.take(2, 2, 0, 0), true);
        Due.is("its order", x.of(0, 2), 4);
        Due.is("its t t", x.product(0, 2, 2), 3);
        Due.is("the last of ten, to the last world", x.take(5, 2, 9, 5), true);
        Due.is("its t t", x.product(5, 5, 5), 4 + 5 * 4);
        Due.is("two acts more", x.look(0), 3);
        Due.is("undone", x.undo(true), 5);
        Due.is("undone", x.undo(true), 0);
        Due.is("as it was", x.of(0, 2), 243);
        Due.is("redone", x.undo(false), 0);
        Due.is("its t t", x.product(0, 2, 2), 3);
    }

    private static void takeNoneSuch() {
        Due.sentence("Promise 25", "false if there is none such");
        NeedNotJoin x = Due.told(FIELD_OF_4);
        x.digit(1, 0, 0, 0, 1);
        x.undo(true);
        String before = Due.state(x);
        int[][] lists = {{2, 2, 1}, {2, 3, 8}, {3, 2, 3}, {5, 2, 10}};
        for (int[] list : lists) {
            for (int i : new int[] {list[2], list[2] + 1, 31, 32, -1, Integer.MIN_VALUE, Integer.MAX_VALUE}) {
                Due.is("take " + list[0] + " " + list[1] + " " + i, x.take(list[0], list[1], i, 0), false);
            }
        }
        Due.stays("none of these", x, before);
    }

    private static void takeRefused() {
        Due.sentence("Promise 25", "or one can't be");
        NeedNotJoin x = Due.told(FIELD_OF_4);
        x.digit(1, 0, 0, 0, 1);
        x.undo(true);
        String before = Due.state(x);
        for (int w : NO_WORLDS) {
            Due.is("world " + w, x.take(2, 2, 0, w), false);
        }
        int[][] none = {{2, 1}, {2, 4}, {3, 3}, {5, 3}, {4, 2}, {0, 0}, {-2, 2}, {Integer.MAX_VALUE, 2}};
        for (int[] one : none) {
            Due.is("take " + one[0] + " " + one[1], x.take(one[0], one[1], 0, 0), false);
        }
        Due.stays("none of these", x, before);
    }

    private static void imageTaken() {
        Due.sentence("Promise 26", "THE IMAGE is taken (true), or gone back to (false): true");
        NeedNotJoin x = new NeedNotJoin();
        Due.is("of a new object", x.image(true), true);
        for (int act = 0; act < 25; act++) {
            x.digit(0, 0, 0, 0, 1 - act % 2);
        }
        Due.is("gone back to", x.image(false), true);
        Due.is("no acts", x.look(0), 0);
        Due.is("nothing to undo", x.undo(true), NO);
        for (int act = 0; act < 25; act++) {
            x.digit(0, 0, 0, 0, 1 - act % 2);
        }
        Due.is("taken again", x.image(true), true);
        for (int act = 0; act < 25; act++) {
            x.digit(1, 0, 0, 0, 1 - act % 2);
        }
        Due.is("gone back to", x.image(false), true);
        for (int act = 24; act >= 5; act--) {
            Due.is("undone", x.undo(true), 0);
            Due.is("as it was", x.cube(0, 0, 0, 0), act % 2);
        }
        Due.is("no more", x.undo(true), NO);
    }

    private static void imageNone() {
        Due.sentence("Promise 26", "false if there is none");
        NeedNotJoin x = Due.told(FIELD_OF_4);
        x.map(1, 1, 1);
        x.digit(0, 1, 1, 1, 0);
        x.undo(true);
        String before = Due.state(x);
        Due.is("none", x.image(false), false);
        Due.is("none again", x.image(false), false);
        Due.stays("that", x, before);
        Due.is("one", x.image(true), true);
        Due.is("there is one", x.image(false), true);
        Due.stays("that", x, before);
    }

    private static void actsUndone() {
        Due.sentence("Promise 27", "What 0 ACTS that can be undone");
        NeedNotJoin x = new NeedNotJoin();
        Due.is("none", x.look(0), 0);
        for (int act = 1; act <= 25; act++) {
            x.digit(0, 0, 0, 0, 0);
            Due.is("behind " + act, x.look(0), Math.min(20, act));
        }
        for (int left = 19; left >= 0; left--) {
            x.undo(true);
            Due.is("left", x.look(0), left);
        }
        x.undo(true);
        Due.is("none", x.look(0), 0);
    }

    private static void actsRedone() {
        Due.sentence("Promise 27", "1 redone");
        NeedNotJoin x = new NeedNotJoin();
        Due.is("none", x.look(1), 0);
        for (int act = 1; act <= 25; act++) {
            x.digit(0, 0, 0, 0, 0);
            Due.is("none undone", x.look(1), 0);
        }
        for (int back = 1; back <= 21; back++) {
            x.undo(true);
            Due.is("undone", x.look(1), Math.min(20, back));
        }
        for (int left = 19; left >= 0; left--) {
            x.undo(false);
            Due.is("left", x.look(1), left);
        }
        x.undo(false);
        Due.is("none", x.look(1), 0);
    }

    private static void imagesOfBaseElements() {
        Due.sentence("Promise 27", "10 + 5 m + i the image of BASE ELEMENT i by MAP m (NONE: itself, not told)");
        NeedNotJoin x = new NeedNotJoin();
        for (int at = 10; at < 25; at++) {
            Due.is("not told", x.look(at), NO);
        }
        x.map(0, 0, 1);
        Due.is("told as itself", x.look(10), 1);
        x.map(2, 4, 0);
        Due.is("told as nought", x.look(24), 0);
        x.map(2, 4, 242);
        Due.is("told anew", x.look(24), 242);
        x.map(2, 4, 243);
        Due.is("not told anew", x.look(24), 242);
        for (int at = 11; at < 24; at++) {
            Due.is("not told", x.look(at), NO);
        }
    }

    private static void lookRefused() {
        Due.sentence("Promise 27", "NONE for another what");
        NeedNotJoin x = Due.told(FIELD_OF_4);
        for (int at = 0; at < 15; at++) {
            x.map(at / 5, at % 5, 7);
        }
        for (int what : new int[] {Integer.MIN_VALUE, -10, -1, 2, 3, 8, 9, 25, 26, 100, Integer.MAX_VALUE}) {
            Due.is("what " + what, x.look(what), NO);
        }
    }
}
