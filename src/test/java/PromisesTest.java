/** For each promise: ordinary inputs, the edges that the document names, and wrong inputs. */
public final class PromisesTest {
    private static final int NO = NeedNotJoin.NONE;

    private PromisesTest() {
    }

    public static void main(String[] args) {
        newObject();
        tape();
        texts();
        orders();
        faults();
        moreFaults();
        statements();
        digits();
        fieldTexts();
        twists();
        turns();
        questions();
        products();
        ranks();
        powersAndSpans();
        unitals();
        acts();
        manyActs();
        maps();
        sameness();
        planes();
        fanos();
        parts();
        lists();
        images();
        looks();
        Due.end();
    }

    private static void newObject() {
        NeedNotJoin x = new NeedNotJoin();
        Due.is("NONE", NeedNotJoin.NONE, -1);
        for (int w = 0; w < 6; w++) {
            Due.is("1 p", x.of(w, 0), 2);
            Due.is("1 n", x.of(w, 1), 1);
            Due.is("1 order", x.of(w, 2), 2);
            Due.is("1 cube", x.cube(w, 0, 0, 0), 0);
            Due.is("1 divides", x.of(w, 3), 0);
        }
        Due.is("1 fault", x.fault(0), 0);
        Due.is("1 fault place", x.fault(1), NO);
        Due.is("1 no tape", x.end(1), false);
        Due.is("1 no act", x.undo(true), NO);
        Due.is("1 no act", x.undo(false), NO);
        Due.is("1 no image", x.image(false), false);
        for (int what = 10; what < 25; what++) {
            Due.is("1 no map", x.look(what), NO);
        }
    }

    private static void tape() {
        NeedNotJoin x = new NeedNotJoin();
        for (int i = 1; i <= 30; i++) {
            Due.is("2 feed", x.feed(538976288, 538976288, 538976288, 538976288, 538976288), 20 * i);
        }
        Due.is("2 full", x.feed(0, 0, 0, 0, 0), NO);
        Due.is("3 has 600", x.end(600), true);
        Due.is("3 not 601", x.end(601), false);
        Due.is("3 below 0", x.end(-1), false);
        Due.is("3 least", x.end(Integer.MIN_VALUE), false);
        Due.is("3 greatest", x.end(Integer.MAX_VALUE), false);
        Due.is("3 581", x.end(581), true);
        Due.is("2 601 would be too many", x.feed(0, 0, 0, 0, 0), NO);
        Due.is("3 580", x.end(580), true);
        Due.is("2 600 again", x.feed(0, 0, 0, 0, 0), 600);
        Due.is("3 blanks alone", x.end(580), true);
        Due.is("4 blanks alone are a world as at first", x.text(0), 2);
        Due.is("4 the tape is empty", x.end(1), false);
        Due.is("2 from the start", x.feed(-1, -1, -1, -1, -1), 20);
        Due.is("4 byte 255", x.text(0), NO);
        Due.is("5 its fault", x.fault(0), 1);
        Due.is("5 its place", x.fault(1), 0);
        Due.is("2 highest first", x.feed(0x6f726465, 0x72203220, 0x333b2020, 0x20202020, 0x2020200a), 20);
        Due.is("4 order 2 3", x.text(0), 8);
    }

    private static void texts() {
        NeedNotJoin x = new NeedNotJoin();
        Due.is("4 field", Due.text(x, 0, "order 3 2; field 2 1;"), 9);
        Due.is("4 its cube", x.cube(0, 1, 1, 0), 2);
        Due.is("4 its cube", x.cube(0, 1, 1, 1), 1);
        Due.is("4 a fault", Due.text(x, 0, "order 2 2; at 0 0 1;"), NO);
        Due.is("4 stays", x.of(0, 2), 9);
        Due.is("5 fault", x.fault(0), 1);
        Due.is("5 place", x.fault(1), 19);
        Due.is("5 other", x.fault(2), NO);
        Due.is("5 other", x.fault(-1), NO);
        Due.is("4 tape empty after a fault", x.end(1), false);
        Due.is("look after a fault", x.look(0), 1);
        Due.is("4 no such world", Due.text(x, 6, "order"), NO);
        Due.is("5 tells 0", x.fault(0), 0);
        Due.is("5 tells no place", x.fault(1), NO);
        Due.is("4 tape empty without a world", x.end(1), false);
        Due.is("4 no such world", Due.text(x, -1, "order 2 1;"), NO);
        Due.is("4 a fault", Due.text(x, 0, "order"), NO);
        Due.is("4 well again", Due.text(x, 5, "order 2 1;"), 2);
        Due.is("5 no fault", x.fault(0), 0);
        Due.is("5 no place", x.fault(1), NO);
        Due.is("4 nothing", Due.text(x, 0, ""), 2);
        Due.is("4 nothing told: p", x.of(0, 0), 2);
        Due.is("4 nothing told: n", x.of(0, 1), 1);
        Due.is("4 nothing told: an act", x.look(0), 3);
        Due.is("4 no blanks", Due.text(x, 1, "order2 2;field1 1;turn3;"), 4);
        Due.is("4 lines", Due.text(x, 1, "\n order\n2\n 2\n;\n"), 4);
        Due.is("4 noughts ahead", Due.text(x, 1, "order 0002 0003;"), 8);
    }

    private static void orders() {
        NeedNotJoin x = new NeedNotJoin();
        int[][] orders = {{2, 1, 2}, {2, 2, 4}, {2, 3, 8}, {2, 4, 16}, {2, 5, 32}, {3, 1, 3}, {3, 2, 9},
            {3, 3, 27}, {3, 4, 81}, {3, 5, 243}, {5, 1, 5}, {5, 2, 25}, {5, 3, 125}};
        for (int[] order : orders) {
            Due.is("4 order " + order[2], Due.text(x, 0, "order " + order[0] + " " + order[1] + ";"), order[2]);
            Due.is("8 p", x.of(0, 0), order[0]);
            Due.is("8 n", x.of(0, 1), order[1]);
            Due.is("8 order", x.of(0, 2), order[2]);
        }
        fault(x, "order 5 4;", 2, 8);
        fault(x, "order 5 5;", 2, 8);
        fault(x, "order 2 6;", 2, 8);
        fault(x, "order 2 0;", 2, 8);
        fault(x, "order 0 1;", 2, 6);
        fault(x, "order 1 1;", 2, 6);
        fault(x, "order 4 9;", 2, 6);
        fault(x, "order 6 1;", 2, 6);
        fault(x, "order 7 1;", 2, 6);
        fault(x, "order 9999 1;", 2, 6);
        fault(x, "order 2 9999;", 2, 8);
    }

    private static void fault(NeedNotJoin x, String text, int kind, int place) {
        Due.is("4 " + text, Due.text(x, 0, text), NO);
        Due.is("5 fault of " + text, x.fault(0), kind);
        Due.is("5 place of " + text, x.fault(1), place);
    }

    private static void faults() {
        NeedNotJoin x = new NeedNotJoin();
        fault(x, ";", 1, 0);
        fault(x, "2", 1, 0);
        fault(x, "  #", 1, 2);
        fault(x, "order", 1, 5);
        fault(x, "order  ", 1, 7);
        fault(x, "order 2", 1, 7);
        fault(x, "order 2 2", 1, 9);
        fault(x, "order 2 2 2;", 1, 10);
        fault(x, "order 2;", 1, 7);
        fault(x, "order ;", 1, 6);
        fault(x, "order two 2;", 1, 6);
        fault(x, "order 00002 2;", 1, 6);
        fault(x, "order 2 2;;", 1, 10);
        fault(x, "order 2 2; order 2 2;", 1, 11);
        fault(x, "Order 2 2;", 1, 0);
        fault(x, "orders 2 2;", 1, 0);
        fault(x, "orde 2 2;", 1, 0);
        fault(x, "orderz 2 2;", 1, 0);
        fault(x, "orderA 2 2;", 1, 0);
        fault(x, "orderZ 2 2;", 1, 0);
        fault(x, "order@ 2 2;", 1, 5);
        fault(x, "order[ 2 2;", 1, 5);
        fault(x, "order` 2 2;", 1, 5);
        fault(x, "order{ 2 2;", 1, 5);
        fault(x, "order/2 2;", 1, 5);
        fault(x, "order:2 2;", 1, 5);
        fault(x, "field 1;", 1, 0);
        fault(x, "at 0 0 0;", 1, 0);
        fault(x, "turn 0;", 1, 0);
        fault(x, "twist 0 0 0;", 1, 0);
        fault(x, "order 2 2; twist 0 0 0;", 1, 11);
        fault(x, "order 2 2; at 0 0 1 0; twist 0 0 0;", 1, 23);
        fault(x, "order\t2 2;", 1, 5);
        fault(x, "order 2 2;" + (char) 233, 1, 10);
        fault(x, "order -2 2;", 1, 6);
    }

    private static void moreFaults() {
        NeedNotJoin x = new NeedNotJoin();
        fault(x, "order 3 2; field 1;", 1, 18);
        fault(x, "order 3 2; field 1 1 1;", 1, 21);
        fault(x, "order 3 2; field 3 1;", 2, 17);
        fault(x, "order 3 2; field 1 3;", 2, 19);
        fault(x, "order 3 2; field 2 1; twist 9 0 0;", 2, 28);
        fault(x, "order 3 2; field 2 1; twist 8 5 0;", 2, 30);
        fault(x, "order 3 2; field 2 1; twist 8 4 5;", 2, 32);
        fault(x, "order 3 2; field 2 1; twist 8 4;", 1, 31);
        fault(x, "order 3 2; field 2 1; twist 8 4 4 4;", 1, 34);
        fault(x, "order 3 2; at 2 0 0 0;", 2, 14);
        fault(x, "order 3 2; at 1 2 0 0;", 2, 16);
        fault(x, "order 3 2; at 1 1 3 0;", 2, 18);
        fault(x, "order 3 2; at 1 1 2 3;", 2, 20);
        fault(x, "order 3 2; at 1 1 2;", 1, 19);
        fault(x, "order 3 2; at 1 1 2 2 2;", 1, 22);
        fault(x, "order 3 2; at 9 9 9 9", 2, 14);
        fault(x, "order 3 2; turn 6;", 2, 16);
        fault(x, "order 3 2; turn;", 1, 15);
        fault(x, "order 3 2; turn 5 5;", 1, 18);
        fault(x, "order 3 2; turn 12345;", 1, 16);
        fault(x, "order 4 2; junk", 2, 6);
        fault(x, "order 2 2 junk; order 5 5;", 1, 10);
    }

    private static void statements() {
        NeedNotJoin x = new NeedNotJoin();
        StringBuilder forty = new StringBuilder("order 2 2;");
        for (int i = 1; i < 40; i++) {
            forty.append("turn 1;");
        }
        Due.is("4 forty statements", Due.text(x, 0, forty.toString()), 4);
        fault(x, forty + "turn 1;", 3, 283);
        fault(x, forty + " turn 9;", 3, 284);
        fault(x, forty + "order 2 2;", 1, 283);
        fault(x, forty + "twist 0 0 0;", 1, 283);
        fault(x, forty + ";", 1, 283);
        fault(x, forty + "5", 1, 283);
        fault(x, forty + "trun 1;", 1, 283);
        Due.is("4 forty and blanks", Due.text(x, 0, forty + "  \n"), 4);
    }

    private static void digits() {
        NeedNotJoin x = new NeedNotJoin();
        Due.text(x, 0, "order 5 3;");
        Due.is("6 told", x.digit(0, 2, 1, 0, 4), true);
        Due.is("7 it is there", x.cube(0, 2, 1, 0), 4);
        Due.is("7 no other", x.cube(0, 1, 2, 0), 0);
        Due.is("6 too large", x.digit(0, 2, 1, 0, 5), false);
        Due.is("6 below 0", x.digit(0, 2, 1, 0, -1), false);
        Due.is("6 place", x.digit(0, 3, 1, 0, 0), false);
        Due.is("6 place", x.digit(0, 0, 3, 0, 0), false);
        Due.is("6 place", x.digit(0, 0, 0, 3, 0), false);
        Due.is("6 place", x.digit(0, -1, 0, 0, 0), false);
        Due.is("6 place", x.digit(0, 0, -1, 0, 0), false);
        Due.is("6 place", x.digit(0, 0, 0, -1, 0), false);
        Due.is("6 world", x.digit(6, 0, 0, 0, 0), false);
        Due.is("6 world", x.digit(-1, 0, 0, 0, 0), false);
        Due.is("6 no act refused", x.look(0), 2);
        Due.is("6 the same digit is an act", x.digit(0, 2, 1, 0, 4), true);
        Due.is("6 the same digit is an act", x.look(0), 3);
        Due.is("7 place", x.cube(0, 3, 0, 0), NO);
        Due.is("7 place", x.cube(0, 0, 3, 0), NO);
        Due.is("7 place", x.cube(0, 0, 0, 3), NO);
        Due.is("7 place", x.cube(0, Integer.MIN_VALUE, 0, 0), NO);
        Due.is("7 place", x.cube(0, 0, Integer.MAX_VALUE, 0), NO);
        Due.is("7 world", x.cube(6, 0, 0, 0), NO);
        Due.is("7 world", x.cube(-1, 0, 0, 0), NO);
        Due.is("6 p less 1 of 2", x.digit(1, 0, 0, 0, 2), false);
        Due.is("6 1 of 2", x.digit(1, 0, 0, 0, 1), true);
        Due.is("9 divides now", x.of(1, 3), 1);
        Due.is("6 back", x.digit(1, 0, 0, 0, 0), true);
        Due.is("9 divides no more", x.of(1, 3), 0);
    }

    private static void fieldTexts() {
        NeedNotJoin x = new NeedNotJoin();
        Due.text(x, 0, "order 3 5; field 2 1 0 0 0;");
        Due.is("4 t t", x.product(0, 3, 3), 9);
        Due.is("4 t4 t4 is t4 and 2 t3", x.product(0, 81, 81), 81 + 2 * 27);
        Due.is("4 1", x.product(0, 1, 200), 200);
        Due.text(x, 1, "order 5 1; field 0;");
        Due.is("4 the least field", x.product(1, 3, 4), 2);
        Due.text(x, 1, "order 5 1; field 4;");
        Due.is("4 the least field", x.product(1, 3, 4), 2);
        Due.text(x, 2, "order 2 3; field 0 0 0;");
        Due.is("4 no field, t3 is 0", x.product(2, 4, 2), 0);
        Due.is("4 no field, t2", x.product(2, 2, 2), 4);
        Due.text(x, 3, "order 2 2; field 1 1; field 1 0;");
        Due.is("4 the later field", x.product(3, 2, 2), 1);
        Due.text(x, 4, "order 2 2; field 1 1; at 1 1 0 0; at 0 1 1 1;");
        Due.is("4 at", x.product(4, 2, 2), 0);
        Due.is("4 at", x.product(4, 1, 2), 3);
        Due.is("4 at", x.product(4, 2, 1), 2);
    }

    private static void twists() {
        NeedNotJoin x = new NeedNotJoin();
        Due.text(x, 0, "order 3 3; field 2 1 0; twist 5 1 2;");
        Due.text(x, 1, "order 3 3; field 2 1 0;");
        for (int a = 0; a < 27; a++) {
            for (int b = 0; b < 27; b++) {
                int left = power(x, 1, a, 3);
                int right = power(x, 1, b, 9);
                int less = x.product(1, x.product(1, 5, left), right);
                Due.is("4 twist", x.product(0, a, b), less3(x.product(1, a, b), less));
            }
        }
        Due.text(x, 2, "order 3 3; field 2 1 0; at 1 1 0 0 0; turn 4; twist 5 1 2;");
        Due.text(x, 3, "order 3 3; field 2 1 0; twist 7 0 0; twist 5 1 2;");
        for (int at = 0; at < 27; at++) {
            int cell = x.cube(0, at / 9, at / 3 % 3, at % 3);
            Due.is("4 twist by the field", x.cube(2, at / 9, at / 3 % 3, at % 3), cell);
            Due.is("4 twist again", x.cube(3, at / 9, at / 3 % 3, at % 3), cell);
        }
        Due.text(x, 4, "order 3 3; field 2 1 0; twist 1 0 0;");
        Due.is("4 x y less x y", x.product(4, 22, 13), 0);
        Due.text(x, 4, "order 3 3; field 2 1 0; twist 0 4 4;");
        Due.is("4 less nothing", x.product(4, 22, 13), x.product(1, 22, 13));
    }

    private static int power(NeedNotJoin x, int w, int a, int times) {
        int result = a;
        for (int i = 1; i < times; i++) {
            result = x.product(w, result, a);
        }
        return result;
    }

    private static int less3(int a, int b) {
        int result = 0;
        for (int place = 1; place < 243; place *= 3) {
            result += (a / place % 3 - b / place % 3 + 3) % 3 * place;
        }
        return result;
    }

    private static void turns() {
        NeedNotJoin x = new NeedNotJoin();
        Due.text(x, 0, "order 3 3; at 0 1 0 0 2; at 2 0 1 1 0; at 1 1 2 0 1;");
        for (int way = 0; way < 6; way++) {
            Due.is("16", x.turn(0, 1, way), true);
            Due.text(x, 2, "order 3 3; at 0 1 0 0 2; at 2 0 1 1 0; at 1 1 2 0 1; turn " + way + ";");
            for (int at = 0; at < 27; at++) {
                int i = at / 9;
                int j = at / 3 % 3;
                int k = at % 3;
                int due = turned(x, way, i, j, k);
                Due.is("16 turned", x.cube(1, i, j, k), due);
                Due.is("4 turned", x.cube(2, i, j, k), due);
            }
        }
        int acts = x.look(0);
        Due.is("16 way", x.turn(0, 1, 6), false);
        Due.is("16 way", x.turn(0, 1, -1), false);
        Due.is("16 world", x.turn(6, 1, 0), false);
        Due.is("16 world", x.turn(0, 6, 0), false);
        Due.is("16 world", x.turn(-1, 0, 0), false);
        Due.is("16 world", x.turn(0, -1, 0), false);
        Due.is("16 refused, no act", x.look(0), acts);
        Due.is("16 on itself", x.turn(0, 0, 1), true);
        Due.is("16 on itself", x.cube(0, 1, 0, 2), 2);
        Due.is("16 on itself", x.cube(0, 0, 1, 2), 0);
        Due.is("16 copies", x.turn(0, 5, 0), true);
        Due.is("16 copies the order", x.of(5, 2), 27);
    }

    private static int turned(NeedNotJoin x, int way, int i, int j, int k) {
        switch (way) {
            case 0: return x.cube(0, i, j, k);
            case 1: return x.cube(0, j, i, k);
            case 2: return x.cube(0, k, j, i);
            case 3: return x.cube(0, i, k, j);
            case 4: return x.cube(0, k, i, j);
            default: return x.cube(0, j, k, i);
        }
    }

    private static void questions() {
        NeedNotJoin x = new NeedNotJoin();
        Due.text(x, 0, "order 3 2; at 0 0 1 0; at 0 1 0 1; at 1 0 0 1;");
        int[] dual = {3, 2, 9, 0, 9 * 3 + 3, 1, 1, 1, NO, 9, 9, 9, 9, 2, 0, 4, 1, 5};
        for (int what = 0; what < dual.length; what++) {
            Due.is("8 of t t = 0, what " + what, x.of(0, what), dual[what]);
        }
        Due.text(x, 1, "order 2 2; at 0 0 1 0; at 0 1 0 1;");
        int[] leftUnit = {2, 2, 4, 0, 4 * 2 + 1, NO, 0, 1, NO, 4, 4, 4, 1, 3, NO, 3};
        for (int what = 0; what < leftUnit.length; what++) {
            Due.is("8 of a left unit, what " + what, x.of(1, what), leftUnit[what]);
        }
        Due.text(x, 2, "order 2 2; at 0 0 0 1; at 1 1 1 0;");
        Due.is("8 does not join", x.of(2, 7), 0);
        Due.is("8 the first that fail", x.of(2, 8), 1);
        Due.is("8 commutes", x.of(2, 6), 1);
        Due.is("8 left nucleus", x.of(2, 9), 1);
        Due.is("8 noughts", x.of(3, 12), 2);
        Due.is("8 noughts, no unit", x.of(3, 5), NO);
        Due.is("8 noughts, derivations", x.of(3, 16), 1);
        Due.is("8 noughts, triples", x.of(3, 17), 3);
        Due.text(x, 4, "order 3 5;");
        Due.is("8 noughts of 243", x.of(4, 4), 243 + 1);
        Due.is("8 noughts of 243", x.of(4, 16), 25);
        Due.is("8 noughts of 243", x.of(4, 17), 75);
        Due.is("8 noughts of 243", x.of(4, 9), 243);
        Due.text(x, 5, "order 2 5; field 1 0 1 0 0;");
        Due.is("8 field of 32, triples", x.of(5, 17), 10);
        Due.text(x, 5, "order 3 5; field 2 1 0 0 0;");
        Due.is("8 field of 243", x.of(5, 3), 1);
        Due.is("8 field of 243, derivations", x.of(5, 16), 0);
        Due.is("8 field of 243, triples", x.of(5, 17), 10);
        Due.is("8 field of 243, centre", x.of(5, 12), 243);
        Due.is("8 field of 243, squares", x.of(5, 15), 122);
        Due.text(x, 5, "order 3 2; field 1 1;");
        Due.is("8 planar", x.of(5, 14), 1);
        Due.is("8 not planar", x.of(4, 14), 0);
        Due.is("8 what", x.of(0, 18), NO - 1);
        Due.is("8 what", x.of(0, -1), NO - 1);
        Due.is("8 what", x.of(0, Integer.MIN_VALUE), NO - 1);
        Due.is("8 what", x.of(0, Integer.MAX_VALUE), NO - 1);
        Due.is("8 world", x.of(6, 3), NO - 1);
        Due.is("8 world", x.of(-1, 3), NO - 1);
    }

    private static void products() {
        NeedNotJoin x = new NeedNotJoin();
        Due.text(x, 0, "order 5 2; field 2 0;");
        Due.is("9 commutes", x.product(0, 8, 14), x.product(0, 14, 8));
        Due.is("9 (3 + t)(4 + 2 t) by t t = 2", x.product(0, 8, 14), (12 + 2 * 2) % 5 + 5 * ((3 * 2 + 4) % 5));
        Due.is("9 world", x.product(6, 0, 0), NO);
        Due.is("9 world", x.product(-1, 0, 0), NO);
        Due.is("9 element", x.product(0, 25, 0), NO);
        Due.is("9 element", x.product(0, 0, 25), NO);
        Due.is("9 element", x.product(0, -1, 0), NO);
        Due.is("9 element", x.product(0, 0, -1), NO);
        Due.is("10 left", x.quotient(0, 8, 14, true), x.quotient(0, 8, 14, false));
        Due.is("10 by nought", x.quotient(0, 0, 14, true), NO);
        Due.is("10 nought by nought", x.quotient(0, 0, 0, false), 0);
        Due.is("10 world", x.quotient(6, 0, 0, true), NO);
        Due.is("10 element", x.quotient(0, 25, 0, true), NO);
        Due.is("10 element", x.quotient(0, 0, 25, true), NO);
        Due.is("10 element", x.quotient(0, -1, 0, false), NO);
        Due.is("10 element", x.quotient(0, 0, -1, false), NO);
        Due.text(x, 1, "order 2 2; at 0 0 1 0; at 0 1 0 1;");
        Due.is("10 left, least", x.quotient(1, 1, 2, true), 2);
        Due.is("10 right, least of two", x.quotient(1, 2, 2, false), 1);
        Due.is("10 right, none", x.quotient(1, 2, 1, false), NO);
        Due.is("10 left, none", x.quotient(1, 2, 1, true), NO);
    }

    private static void ranks() {
        NeedNotJoin x = new NeedNotJoin();
        Due.text(x, 0, "order 2 2; at 0 0 1 0; at 0 1 0 1;");
        int[][] due = {{1, 0, 2}, {0, 3, 0}, {0, 3, 0}};
        for (int side = 0; side < 3; side++) {
            for (int r = 0; r < 3; r++) {
                Due.is("11 side " + side + " rank " + r, x.ranks(0, side, r), due[side][r]);
            }
        }
        Due.text(x, 1, "order 3 5;");
        Due.is("11 noughts", x.ranks(1, 0, 0), 242);
        Due.is("11 noughts", x.ranks(1, 2, 5), 0);
        Due.is("11 rank", x.ranks(1, 0, 6), NO);
        Due.is("11 rank", x.ranks(0, 0, 3), NO);
        Due.is("11 rank", x.ranks(0, 0, -1), NO);
        Due.is("11 side", x.ranks(0, 3, 0), NO);
        Due.is("11 side", x.ranks(0, -1, 0), NO);
        Due.is("11 world", x.ranks(6, 0, 0), NO);
        Due.is("11 world", x.ranks(-1, 0, 0), NO);
    }

    private static void powersAndSpans() {
        NeedNotJoin x = new NeedNotJoin();
        Due.text(x, 0, "order 2 5; field 1 0 1 0 0;");
        Due.is("12", x.powers(0, 2), 31);
        Due.is("12 nought", x.powers(0, 0), 1);
        Due.is("12 one", x.powers(0, 1), 1);
        Due.is("12 element", x.powers(0, 32), NO);
        Due.is("12 element", x.powers(0, -1), NO);
        Due.is("12 world", x.powers(6, 0), NO);
        Due.is("12 noughts", x.powers(1, 1), 2);
        Due.is("13", x.span(0, 2, 0), 32);
        Due.is("13 one", x.span(0, 1, 1), 2);
        Due.is("13 nought", x.span(0, 0, 0), 1);
        Due.is("13 element", x.span(0, 32, 0), NO);
        Due.is("13 element", x.span(0, 0, 32), NO);
        Due.is("13 element", x.span(0, -1, 0), NO);
        Due.is("13 element", x.span(0, 0, -1), NO);
        Due.is("13 world", x.span(6, 0, 0), NO);
        Due.text(x, 2, "order 3 5;");
        Due.is("13 noughts", x.span(2, 1, 81), 9);
        Due.is("13 noughts", x.span(2, 81, 162), 3);
        Due.text(x, 2, "order 2 3; at 0 1 0 0 1;");
        Due.is("13 a product in one order", x.span(2, 2, 1), 8);
        Due.is("13 a product in one order", x.span(2, 1, 2), 8);
        Due.text(x, 2, "order 2 3; at 1 0 0 0 1;");
        Due.is("13 a product in the other", x.span(2, 1, 2), 8);
        Due.text(x, 2, "order 2 4; at 0 1 0 0 1 0; at 2 0 0 0 0 1;");
        Due.is("13 a product of a product", x.span(2, 1, 2), 16);
        Due.text(x, 2, "order 2 3; at 0 0 0 1 0; at 0 1 0 0 1; at 1 0 1 0 0;");
        Due.is("12 from the left: 1, t, (t 1)", x.powers(2, 1), 2);
    }

    private static void unitals() {
        NeedNotJoin x = new NeedNotJoin();
        Due.text(x, 0, "order 3 2; field 1 1; twist 3 1 1;");
        Due.is("17 divides", x.of(0, 3), 1);
        for (int e = 1; e < 9; e++) {
            Due.is("17", x.unital(0, 1, e), x.product(0, e, e));
            Due.is("17 unit", x.of(1, 5), x.product(0, e, e));
            for (int at = 0; at < 81; at++) {
                int a = at / 9;
                int b = at % 9;
                Due.is("17 (x e) * (e y)", x.product(1, x.product(0, a, e), x.product(0, e, b)), x.product(0, a, b));
            }
        }
        int acts = x.look(0);
        Due.is("17 nought", x.unital(0, 1, 0), NO);
        Due.is("17 element", x.unital(0, 1, 9), NO);
        Due.is("17 element", x.unital(0, 1, -1), NO);
        Due.is("17 world", x.unital(6, 1, 1), NO);
        Due.is("17 world", x.unital(0, 6, 1), NO);
        Due.is("17 world", x.unital(0, -1, 1), NO);
        Due.is("17 does not divide", x.unital(2, 1, 1), NO);
        Due.is("17 refused, no act", x.look(0), acts);
        int own = x.product(0, 4, 4);
        Due.is("17 on itself", x.unital(0, 0, 4), own);
        Due.is("17 on itself", x.of(0, 5), own);
        Due.is("17 an act", x.undo(true), 0);
        Due.is("17 undone", x.of(0, 5), NO);
    }

    private static void acts() {
        NeedNotJoin x = new NeedNotJoin();
        for (int i = 0; i < 25; i++) {
            x.digit(i % 6, 0, 0, 0, i % 12 < 6 ? 1 : 0);
            Due.is("18 acts", x.look(0), Math.min(20, i + 1));
        }
        for (int i = 24; i >= 5; i--) {
            Due.is("18 undone", x.undo(true), i % 6);
            Due.is("18 its digit", x.cube(i % 6, 0, 0, 0), i % 12 < 6 ? 0 : 1);
            Due.is("18 can be redone", x.look(1), 25 - i);
        }
        Due.is("18 no more", x.undo(true), NO);
        Due.is("18 nothing to undo", x.look(0), 0);
        for (int i = 5; i < 25; i++) {
            Due.is("18 redone", x.undo(false), i % 6);
            Due.is("18 its digit", x.cube(i % 6, 0, 0, 0), i % 12 < 6 ? 1 : 0);
        }
        Due.is("18 no more", x.undo(false), NO);
        x.undo(true);
        x.undo(true);
        Due.is("18 refused acts leave it", x.digit(0, 0, 0, 0, 2), false);
        Due.text(x, 0, "order");
        x.map(0, 0, 1);
        Due.is("18 still redone", x.look(1), 2);
        Due.is("18 another act", x.turn(0, 0, 0), true);
        Due.is("18 no more redone", x.look(1), 0);
        Due.is("18 no more redone", x.undo(false), NO);
        Due.is("18 acts", x.look(0), 19);
    }

    /** Thirty worlds told one after the other: each of the last twenty comes back as it was. */
    private static void manyActs() {
        int[][] orders = {{2, 1}, {2, 2}, {2, 3}, {2, 4}, {2, 5}, {3, 1}, {3, 2}, {3, 3}, {3, 4}, {3, 5}};
        NeedNotJoin x = new NeedNotJoin();
        int[] was = new int[30];
        for (int i = 0; i < 30; i++) {
            int w = i % 3;
            was[i] = x.of(w, 2) * 5 + x.cube(w, 0, 0, 0);
            int[] order = orders[i * 7 % 10];
            Due.text(x, w, "order " + order[0] + " " + order[1] + ";" + (i % 2 == 0 ? "" : "field 1 0 0 0 0"
                .substring(0, 5 + 2 * order[1]) + ";"));
        }
        for (int i = 29; i >= 10; i--) {
            Due.is("18 undone", x.undo(true), i % 3);
            Due.is("18 as it was", x.of(i % 3, 2) * 5 + x.cube(i % 3, 0, 0, 0), was[i]);
        }
        Due.is("18 no more", x.undo(true), NO);
    }

    private static void maps() {
        NeedNotJoin x = new NeedNotJoin();
        Due.text(x, 0, "order 2 2; field 1 1;");
        x.turn(0, 1, 0);
        Due.is("20 themselves", x.carry(0, 1), NO);
        Due.is("19", x.map(0, 1, 3), true);
        Due.is("27", x.look(11), 3);
        Due.is("20 t fails with 1", x.carry(0, 1), 5);
        x.map(1, 1, 3);
        Due.is("20 1 fails with t", x.carry(0, 1), 1);
        x.map(2, 1, 3);
        Due.is("20 the other root", x.carry(0, 1), NO);
        x.map(2, 0, 3);
        Due.is("20 H is not one to one", x.carry(0, 1), 102);
        x.map(1, 1, 0);
        Due.is("20 G is not one to one", x.carry(0, 1), 101);
        x.map(0, 1, 1);
        Due.is("20 F is not one to one", x.carry(0, 1), 100);
        x.map(2, 1, 4);
        Due.is("20 an image not below the order", x.carry(0, 1), NO - 1);
        x.map(2, 1, 3);
        x.map(2, 2, 242);
        Due.is("20 the image of no base element of it", x.carry(0, 1), 100);
        Due.is("20 p unlike", x.carry(0, 2), NO - 1);
        Due.is("20 world", x.carry(0, 6), NO - 1);
        Due.is("20 world", x.carry(-1, 0), NO - 1);
        Due.is("19 map", x.map(3, 0, 0), false);
        Due.is("19 map", x.map(-1, 0, 0), false);
        Due.is("19 base", x.map(0, 5, 0), false);
        Due.is("19 base", x.map(0, -1, 0), false);
        Due.is("19 image", x.map(0, 0, 243), false);
        Due.is("19 image", x.map(0, 0, -1), false);
        Due.is("19 greatest", x.map(2, 4, 242), true);
        Due.is("27 greatest", x.look(24), 242);
        Due.is("19 no act", x.look(0), 2);
        NeedNotJoin y = new NeedNotJoin();
        Due.text(y, 0, "order 3 1; at 0 0 1;");
        y.map(0, 0, 2);
        Due.is("20 the first couple", y.carry(0, 0), 0);
        y.map(1, 0, 2);
        Due.is("20 twice 2 is 1", y.carry(0, 0), NO);
    }

    private static void sameness() {
        NeedNotJoin x = new NeedNotJoin();
        Due.text(x, 0, "order 3 3;");
        Due.is("21 noughts of 27", x.same(0, 0), 26 * 24 * 18);
        Due.text(x, 1, "order 2 4;");
        Due.is("21 noughts of 16", x.same(1, 1), 15 * 14 * 12 * 8);
        Due.text(x, 2, "order 2 5;");
        Due.is("21 order", x.same(2, 2), NO);
        Due.text(x, 3, "order 5 2; field 2 0;");
        Due.is("21 field", x.same(3, 3), 2);
        Due.text(x, 4, "order 3 3; field 2 1 0;");
        Due.is("21 unlike", x.same(0, 4), 0);
        Due.is("21 p", x.same(0, 3), NO);
        Due.is("21 world", x.same(0, 6), NO);
        Due.is("21 world", x.same(-1, 0), NO);
        Due.text(x, 2, "order 2 4; field 1 1 0 0;");
        Due.is("22 field of 16", x.isotopes(2, 2), 15 * 15 * 4);
        Due.is("22 does not divide", x.isotopes(2, 1), NO);
        Due.is("22 does not divide", x.isotopes(1, 2), NO);
        Due.is("22 order", x.isotopes(3, 3), NO);
        Due.is("22 world", x.isotopes(2, 6), NO);
        Due.is("22 world", x.isotopes(-1, 2), NO);
        x.unital(2, 5, 2);
        Due.is("22 the unit is another", x.of(5, 5), 4);
        Due.is("22 a without the unit 1", x.isotopes(5, 2), NO);
        Due.is("22 b without the unit 1", x.isotopes(2, 5), 900);
        Due.text(x, 0, "order 2 1; field 0;");
        Due.is("22 the least", x.isotopes(0, 0), 1);
        Due.is("22 p and n", x.isotopes(0, 2), NO);
        Due.text(x, 0, "order 5 1; field 0;");
        Due.is("22 of 5", x.isotopes(0, 0), 16);
        Due.is("21 of 5", x.same(0, 0), 1);
    }

    private static void planes() {
        NeedNotJoin x = new NeedNotJoin();
        Due.text(x, 0, "order 3 1; field 0;");
        for (int u = 0; u < 13; u++) {
            for (int v = 0; v < 13; v++) {
                int line = x.plane(0, u, v, 0);
                int point = x.plane(0, u, v, 1);
                if (u == v) {
                    Due.is("23 join of the same", line, NO);
                    Due.is("23 meet of the same", point, NO);
                    continue;
                }
                Due.is("23 on the join", x.plane(0, u, line, 2), 1);
                Due.is("23 on the join", x.plane(0, v, line, 2), 1);
                Due.is("23 on the meet", x.plane(0, point, u, 2), 1);
                Due.is("23 on the meet", x.plane(0, point, v, 2), 1);
            }
        }
        Due.is("23 place", x.plane(0, 13, 0, 2), NO);
        Due.is("23 place", x.plane(0, 0, 13, 2), NO);
        Due.is("23 place", x.plane(0, -1, 0, 0), NO);
        Due.is("23 place", x.plane(0, 0, -1, 1), NO);
        Due.is("23 what", x.plane(0, 0, 1, 3), NO);
        Due.is("23 what", x.plane(0, 0, 1, -1), NO);
        Due.is("23 world", x.plane(6, 0, 1, 0), NO);
        Due.is("23 does not divide", x.plane(1, 0, 1, 0), NO);
        Due.text(x, 2, "order 3 5; field 2 1 0 0 0;");
        if (x.of(2, 3) == 1) {
            Due.is("23 the last line", x.plane(2, 59049, 59292, 0), 59292);
            Due.is("23 no such point", x.plane(2, 59293, 0, 2), NO);
        }
    }

    private static void fanos() {
        NeedNotJoin x = new NeedNotJoin();
        Due.text(x, 0, "order 2 2; field 1 1;");
        Due.text(x, 1, "order 3 1; field 0;");
        Due.is("14 p 2", x.fano(0, 0, 1, 4, 5), 1);
        Due.is("14 p 3", x.fano(1, 0, 1, 3, 4), 0);
        Due.is("14 the last points", x.fano(0, 0, 5, 16, 20), 1);
        Due.is("14 three on one line", x.fano(0, 0, 1, 2, 4), NO);
        Due.is("14 three on one line", x.fano(0, 4, 0, 1, 2), NO);
        Due.is("14 three on one line", x.fano(0, 0, 4, 1, 2), NO);
        Due.is("14 three on one line", x.fano(0, 0, 1, 4, 2), NO);
        Due.is("14 two alike", x.fano(0, 0, 1, 4, 4), NO);
        Due.is("14 two alike", x.fano(0, 4, 1, 0, 4), NO);
        Due.is("14 no point", x.fano(0, 0, 1, 4, 21), NO);
        for (int bad : new int[] {-1, 21, Integer.MIN_VALUE, Integer.MAX_VALUE}) {
            Due.is("14 no point", x.fano(0, bad, 1, 4, 5), NO);
            Due.is("14 no point", x.fano(0, 0, bad, 4, 5), NO);
            Due.is("14 no point", x.fano(0, 0, 1, bad, 5), NO);
            Due.is("14 no point", x.fano(0, 0, 1, 4, bad), NO);
        }
        Due.is("14 world", x.fano(6, 0, 1, 4, 5), NO);
        Due.is("14 does not divide", x.fano(2, 0, 1, 2, 3), NO);
    }

    private static void parts() {
        NeedNotJoin x = new NeedNotJoin();
        Due.text(x, 0, "order 2 2; at 0 0 1 0; at 0 1 0 1;");
        Due.text(x, 1, "order 2 2; at 0 0 1 0; at 1 0 0 1;");
        Due.is("15 left", x.parted(0, 1), 0);
        x.turn(0, 2, 3);
        x.turn(1, 3, 4);
        Due.is("15 itself", x.parted(0, 0), NO);
        Due.is("15 right", x.parted(0, 2), rank(x, 0, 2));
        Due.is("15 third", x.parted(1, 3), rank(x, 1, 3));
        Due.text(x, 1, "order 2 2; at 0 0 1 0; at 1 1 1 0;");
        Due.text(x, 2, "order 2 2; at 0 0 1 0; at 1 1 0 1;");
        Due.is("15", x.parted(1, 2), rank(x, 1, 2));
        Due.text(x, 4, "order 3 3; field 2 1 0;");
        Due.text(x, 5, "order 3 3; field 2 1 0; twist 2 1 2;");
        Due.is("15 both divide, so ranks are alike", x.of(4, 3) + x.of(5, 3), 2);
        Due.is("15 triples", x.parted(4, 5), 3);
        Due.is("15 p, n", x.parted(0, 4), NO - 1);
        Due.is("15 world", x.parted(0, 6), NO - 1);
        Due.is("15 world", x.parted(-1, 0), NO - 1);
    }

    private static int rank(NeedNotJoin x, int a, int b) {
        for (int side = 0; side < 3; side++) {
            for (int r = 0; r <= x.of(a, 1); r++) {
                if (x.ranks(a, side, r) != x.ranks(b, side, r)) {
                    return side;
                }
            }
        }
        return x.of(a, 17) != x.of(b, 17) ? 3 : NO;
    }

    private static void lists() {
        NeedNotJoin x = new NeedNotJoin();
        int[][] due = {{2, 2, 1}, {2, 3, 8}, {3, 2, 3}, {5, 2, 10}};
        for (int[] one : due) {
            for (int what = 0; what < 3; what++) {
                Due.is("24", x.list(one[0], one[1], what), one[2]);
            }
            Due.is("24 what", x.list(one[0], one[1], 3), NO);
            Due.is("24 what", x.list(one[0], one[1], -1), NO);
            long before = -1;
            for (int i = 0; i < one[2]; i++) {
                Due.is("25", x.take(one[0], one[1], i, 4), true);
                Due.is("25 unit", x.of(4, 5), 1);
                Due.is("25 divides", x.of(4, 3), 1);
                long number = number(x, 4);
                Due.is("25 rises", number > before, true);
                before = number;
            }
            int acts = x.look(0);
            Due.is("25 no more", x.take(one[0], one[1], one[2], 4), false);
            Due.is("25 below 0", x.take(one[0], one[1], -1, 4), false);
            Due.is("25 world", x.take(one[0], one[1], 0, 6), false);
            Due.is("25 refused, no act", x.look(0), acts);
        }
        Due.is("24 p", x.list(3, 3, 0), NO);
        Due.is("24 p", x.list(2, 1, 0), NO);
        Due.is("24 p", x.list(4, 2, 0), NO);
        Due.is("24 p", x.list(0, 0, 0), NO);
        Due.is("25 p", x.take(3, 3, 0, 0), false);
        Due.is("25 first of 5", x.take(5, 2, 0, 0), true);
        Due.is("25 first of 5", x.cube(0, 1, 1, 0) * 5 + x.cube(0, 1, 1, 1), 5 + 2);
        Due.is("25 an act", x.undo(true), 0);
        Due.is("25 undone", x.of(0, 2), 2);
    }

    private static long number(NeedNotJoin x, int w) {
        int n = x.of(w, 1);
        long number = 0;
        for (int i = 0; i < n; i++) {
            for (int j = 0; j < n; j++) {
                for (int k = 0; k < n; k++) {
                    number = number * x.of(w, 0) + x.cube(w, i, j, k);
                }
            }
        }
        return number;
    }

    private static void images() {
        NeedNotJoin x = new NeedNotJoin();
        Due.text(x, 0, "order 2 2; field 1 1;");
        x.digit(0, 1, 1, 1, 0);
        x.undo(true);
        x.map(1, 2, 7);
        Due.is("26 taken", x.image(true), true);
        Due.feed(x, "order 3 1;x");
        Due.is("4", x.text(0), NO);
        for (int turn = 0; turn < 2; turn++) {
            Due.text(x, 1, "order 3 2;");
            x.map(1, 2, 8);
            x.map(0, 0, 1);
            Due.feed(x, "order 3 3; field 1 ");
            Due.is("26 gone back to", x.image(false), true);
            Due.is("26 world", x.of(1, 2), 2);
            Due.is("26 world", x.of(0, 2), 4);
            Due.is("26 acts", x.look(0), 1);
            Due.is("26 redone", x.look(1), 1);
            Due.is("26 map", x.look(17), 7);
            Due.is("26 map", x.look(10), NO);
            Due.is("26 but the tape", x.end(19), true);
            Due.is("26 but the tape", x.end(20), false);
            Due.is("26 redone", x.undo(false), 0);
            Due.is("26 redone", x.cube(0, 1, 1, 1), 0);
        }
        Due.text(x, 0, "order 5 1;;");
        x.image(false);
        Due.is("26 but the fault", x.fault(0), 1);
        Due.is("26 but the fault", x.fault(1), 10);
        x.undo(true);
        x.image(true);
        x.undo(false);
        x.image(false);
        Due.is("26 a later one", x.look(0), 0);
        Due.is("26 a later one", x.look(1), 2);
        Due.is("26 a later one", x.of(0, 2), 2);
    }

    private static void looks() {
        NeedNotJoin x = new NeedNotJoin();
        int[] none = {-1, 2, 3, 9, 25, 26, Integer.MIN_VALUE, Integer.MAX_VALUE};
        for (int what : none) {
            Due.is("27 what", x.look(what), NO);
        }
        for (int at = 0; at < 15; at++) {
            Due.is("19", x.map(at / 5, at % 5, at + 100), true);
        }
        for (int at = 0; at < 15; at++) {
            Due.is("27", x.look(10 + at), at + 100);
        }
    }
}
