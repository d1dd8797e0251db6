/** Term 3, what is asked of a world: a test for each sentence that names a case at a bound. */
public final class TermThreeTest {
    private static final int NO = NeedNotJoin.NONE;
    private static final String ONE_OF_TWO = "order 2 1;at 0 0 1;";
    private static final String FIELD_OF_4 = "order 2 2;field 1 1;";
    private static final String FIELD_OF_243 = "order 3 5;field 2 1 0 0 0;";
    private static final String LEFT_UNIT = "order 2 2;at 0 0 1 0;at 0 1 0 1;";
    private static final String RIGHT_UNIT = "order 2 2;at 0 0 1 0;at 1 0 0 1;";
    private static final String DIGITS_ALONE = "order 2 5;at 0 0 1 0 0 0 0;at 1 1 0 1 0 0 0;at 2 2 0 0 1 0 0;"
        + "at 3 3 0 0 0 1 0;at 4 4 0 0 0 0 1;";
    /** Two rows of two digits each: element 2 a + b has row a and column b. */
    private static final String MATRICES = "order 2 4;at 0 0 1 0 0 0;at 0 1 0 1 0 0;at 1 2 1 0 0 0;at 1 3 0 1 0 0;"
        + "at 2 0 0 0 1 0;at 2 1 0 0 0 1;at 3 2 0 0 1 0;at 3 3 0 0 0 1;";

    private TermThreeTest() {
    }

    public static void main(String[] args) {
        divides();
        elementsUnlikeNought();
        firstCouple();
        unit();
        unitalOfAWorldThatDivides();
        unitalByElementsUnlikeNought();
        unitalUnit();
        commutes();
        joins();
        firstUnjoined();
        nuclei();
        centre();
        leastQuotients();
        ranksUnlikeNought();
        ranksOfEachSide();
        powers();
        idempotents();
        squares();
        derivations();
        triples();
        spans();
        sumsAndProducts();
        Due.end();
    }

    private static int of(String text, int what) {
        return Due.told(text).of(0, what);
    }

    private static void divides() {
        Due.sentence("Term 3", "A WORLD DIVIDES, if no PRODUCT of two ELEMENTS unlike 0 is 0");
        Due.is("the least that does", of(ONE_OF_TWO, 3), 1);
        Due.is("the greatest that does", of(FIELD_OF_243, 3), 1);
        Due.is("noughts", of("order 3 5;", 3), 0);
        Due.is("the least noughts", of("", 3), 0);
        Due.is("one couple alone fails", of("order 2 2;at 0 0 1 0;at 0 1 0 1;at 1 0 0 1;at 1 1 1 0;", 3), 0);
        Due.is("t to the 5 less 2 t less 1 has a part", of("order 3 5;field 1 2 0 0 0;", 3), 0);
    }

    private static void elementsUnlikeNought() {
        Due.sentence("Term 3", "two ELEMENTS unlike 0");
        NeedNotJoin x = Due.told(ONE_OF_TWO);
        Due.is("nought by one is nought", x.product(0, 0, 1), 0);
        Due.is("and it divides", x.of(0, 3), 1);
        Due.is("nothing fails", x.of(0, 4), NO);
    }

    private static void firstCouple() {
        Due.sentence("Term 3", "told by the first, then the second one (ORDER times the first and the second)");
        Due.is("the first of 2", of("", 4), 2 + 1);
        Due.is("the first of 243", of("order 3 5;", 4), 243 + 1);
        Due.is("1 and 2, ahead of 2 and 1", of("order 2 2;at 0 0 1 0;at 1 1 0 1;", 4), 4 + 2);
        Due.is("2 and 1", of("order 2 2;at 0 0 1 0;at 0 1 0 1;at 1 1 0 1;", 4), 2 * 4 + 1);
        Due.is("the last of all", of("order 2 2;at 0 0 1 0;at 0 1 0 1;at 1 0 0 1;at 1 1 1 0;", 4), 15);
        Due.is("1 and 5, ahead of 1 and 7", of("order 3 2;at 0 0 1 0;at 0 1 1 0;", 4), 9 + 5);
        Due.is("none", of(FIELD_OF_4, 4), NO);
    }

    private static void unit() {
        Due.sentence("Term 3", "A UNIT is an ELEMENT e with e x = x e = x for all x");
        Due.is("noughts", of("", 5), NO);
        Due.is("from the left alone", of(LEFT_UNIT, 5), NO);
        Due.is("from the right alone", of(RIGHT_UNIT, 5), NO);
        Due.is("for 1 alone", of("order 2 2;at 0 0 1 0;", 5), NO);
        Due.is("the least", of(FIELD_OF_243, 5), 1);
        Due.is("the last of 2", of(ONE_OF_TWO, 5), 1);
        Due.is("the last of 5", of("order 5 1;at 0 0 4;", 5), 4);
        Due.is("the last of 32, which does not divide", of(DIGITS_ALONE, 5), 31);
    }

    private static void unitalOfAWorldThatDivides() {
        Due.sentence("Term 3", "UNITAL by e (a WORLD that DIVIDES");
        NeedNotJoin x = Due.told("order 2 2;at 0 0 1 0;at 0 1 0 1;at 1 0 0 1;at 1 1 1 0;");
        for (int e = 1; e < 4; e++) {
            Due.is("one couple fails", x.unital(0, 1, e), NO);
        }
        Due.is("noughts", x.unital(5, 1, 1), NO);
        Due.is("no act", x.look(0), 1);
        x.digit(0, 1, 1, 1, 1);
        Due.is("it divides now", x.unital(0, 1, 3), x.product(0, 3, 3));
    }

    private static void unitalByElementsUnlikeNought() {
        Due.sentence("Term 3", "e unlike 0");
        NeedNotJoin x = Due.told(FIELD_OF_4);
        Due.is("nought", x.unital(0, 1, 0), NO);
        Due.is("one", x.unital(0, 1, 1), 1);
        Due.is("the last", x.unital(0, 1, 3), 2);
        Due.is("one behind it", x.unital(0, 1, 4), NO);
    }

    private static void unitalUnit() {
        Due.sentence("Term 3", "its UNIT is e e");
        NeedNotJoin x = Due.told("order 3 2;field 1 1;twist 3 1 1;");
        Due.is("it divides without one", x.of(0, 3) * 2 + (x.of(0, 5) == NO ? 1 : 0), 3);
        for (int e = 1; e < 9; e++) {
            int square = x.product(0, e, e);
            Due.is("told", x.unital(0, 1, e), square);
            Due.is("there", x.of(1, 5), square);
            for (int u = 0; u < 9; u += 4) {
                int got = x.product(1, x.product(0, u, e), x.product(0, e, 8 - u));
                Due.is("(x e) * (e y)", got, x.product(0, u, 8 - u));
            }
        }
    }

    private static void commutes() {
        Due.sentence("Term 3", "It COMMUTES, if x y = y x for all");
        Due.is("noughts", of("order 3 5;", 6), 1);
        Due.is("size 1", of("order 5 1;at 0 0 3;", 6), 1);
        Due.is("the last places alone", of("order 3 5;at 4 3 0 0 0 0 1;", 6), 0);
        Due.is("these both", of("order 3 5;at 4 3 0 0 0 0 1;at 3 4 0 0 0 0 1;", 6), 1);
        Due.is("these unlike", of("order 3 5;at 4 3 0 0 0 0 1;at 3 4 0 0 0 0 2;", 6), 0);
        Due.is("the first places alone", of("order 2 2;at 0 1 1 0;", 6), 0);
        Due.is("one by itself", of("order 2 2;at 0 0 1 1;at 1 1 1 0;", 6), 1);
    }

    private static void joins() {
        Due.sentence("Term 3", "it JOINS, if (x y) z = x (y z) for all");
        Due.is("noughts", of("order 3 5;", 7), 1);
        Due.is("the greatest field", of(FIELD_OF_243, 7), 1);
        Due.is("matrices", of(MATRICES, 7), 1);
        Due.is("the last three alone fail", of("order 2 5;at 4 4 1 0 0 0 0;at 0 4 0 1 0 0 0;", 7), 0);
    }

    private static void firstUnjoined() {
        Due.sentence("Term 3", "the first BASE ELEMENTS that fail (by numbers i, j, k: 25 i + 5 j + k)");
        Due.is("the first", of("order 2 2;at 0 0 0 1;at 1 0 1 0;", 8), 0);
        Due.is("the last", of("order 2 5;at 4 4 1 0 0 0 0;at 0 4 0 1 0 0 0;", 8), 124);
        Due.is("by 25 and 5, whatever the size", of("order 2 2;at 1 1 1 0;at 0 1 1 0;", 8), 5 + 1);
        Due.is("the last of size 3", of("order 2 3;at 2 2 1 0 0;at 0 2 0 1 0;", 8), 50 + 10 + 2);
        Due.is("none", of("order 3 5;", 8), NO);
    }

    private static void nuclei() {
        Due.sentence("Term 3", "NUCLEI: how many ELEMENTS a with (a x) y = a (x y) (left)");
        String[] texts = {"order 2 2;at 0 0 0 1;at 0 1 1 0;at 1 0 1 0;", "order 2 2;at 0 0 0 1;at 0 1 1 0;",
            "order 2 2;at 0 1 1 0;at 1 0 1 0;", "order 2 2;at 0 0 0 1;at 1 0 1 0;", "order 3 5;", FIELD_OF_243,
            "order 2 3;at 0 2 0 1 0;at 1 2 0 0 1;at 2 2 1 0 0;", "order 2 3;at 1 0 1 0 0;at 1 1 0 1 0;at 2 2 0 1 0;",
            "order 2 3;at 0 0 1 0 0;at 0 1 0 0 1;at 1 0 0 1 0;at 2 0 0 1 0;",
            "order 2 5;at 0 3 0 0 0 0 1;at 1 1 0 1 0 0 0;at 2 1 0 1 0 0 0;at 2 3 0 0 0 0 1;at 3 1 0 0 0 1 0;",
            "order 2 5;at 3 1 0 0 1 0 0;at 3 2 0 1 0 0 0;at 3 3 0 0 0 1 0;at 3 4 0 0 0 1 0;",
            "order 2 5;at 4 4 1 0 0 0 0;at 0 4 0 1 0 0 0;"};
        int[][] due = {{1, 1, 1}, {2, 1, 1}, {1, 2, 1}, {1, 1, 2}, {243, 243, 243}, {243, 243, 243}, {1, 2, 4},
            {2, 4, 1}, {4, 1, 2}, {4, 8, 16}, {16, 8, 4}, {16, 16, 16}};
        for (int i = 0; i < texts.length; i++) {
            NeedNotJoin x = Due.told(texts[i]);
            for (int side = 0; side < 3; side++) {
                Due.is("nucleus " + side + " of " + texts[i], x.of(0, 9 + side), due[i][side]);
            }
        }
    }

    private static void centre() {
        Due.sentence("Term 3", "the CENTRE: those of all three with a x = x a for all x");
        Due.is("noughts: all", of("order 3 5;", 12), 243);
        Due.is("a field: all", of(FIELD_OF_4, 12), 4);
        Due.is("matrices: 0 and the unit", of(MATRICES, 12), 2);
        Due.is("matrices: all in the nuclei", of(MATRICES, 9), 16);
        Due.is("a left unit: 0 alone", of(LEFT_UNIT, 12), 1);
        Due.is("all join there", of(LEFT_UNIT, 9), 4);
        Due.is("t for a left unit: 0 alone", of("order 2 2;at 1 1 0 1;at 1 0 1 0;", 12), 1);
        Due.is("the nuclei's 2 does not commute", of("order 2 2;at 0 1 1 0;", 12), 1);
        Due.is("of size 5, 2", of("order 2 5;at 3 1 0 0 1 0 0;at 3 2 0 1 0 0 0;at 3 3 0 0 0 1 0;at 3 4 0 0 0 1 0;", 12), 2);
        Due.is("of size 5, 8", of("order 2 5;at 4 4 1 0 0 0 0;at 0 4 0 1 0 0 0;", 12), 8);
        Due.is("all commute, 0 alone joins", of("order 2 2;at 0 0 0 1;at 0 1 1 0;at 1 0 1 0;", 12), 1);
    }

    private static void leastQuotients() {
        Due.sentence("Term 3", "QUOTIENTS: the least z with x z = y (left), z x = y (right)");
        NeedNotJoin x = Due.told("order 3 2;at 0 0 1 0;at 0 1 1 0;");
        Due.is("1 z = 0, all of z0 + z1 = 0", x.quotient(0, 1, 0, true), 0);
        Due.is("1 z = 2, the least of 2, 4 and 6", x.quotient(0, 1, 2, true), 2);
        Due.is("1 z = 3", x.quotient(0, 1, 3, true), NO);
        Due.is("z 1 = 2", x.quotient(0, 1, 2, false), 2);
        Due.is("z 3 = 1, the least of three", x.quotient(0, 3, 1, false), 1);
        Due.is("3 z = 0", x.quotient(0, 3, 0, true), 0);
        Due.is("3 z = 1", x.quotient(0, 3, 1, true), NO);
        NeedNotJoin y = Due.told(FIELD_OF_243);
        Due.is("the last one is a quotient", y.quotient(0, 1, 242, true), 242);
        Due.is("nought by one", y.quotient(0, 242, 0, false), 0);
        Due.is("nought by nought", y.quotient(0, 0, 0, true), 0);
        Due.is("one by nought", y.quotient(0, 0, 1, true), NO);
        Due.is("one by nought", y.quotient(0, 0, 1, false), NO);
    }

    private static void ranksUnlikeNought() {
        Due.sentence("Term 3", "RANKS: for ELEMENTS x unlike 0");
        for (String text : new String[] {"", ONE_OF_TWO, "order 5 3;", FIELD_OF_243, MATRICES, LEFT_UNIT}) {
            NeedNotJoin x = Due.told(text);
            for (int side = 0; side < 3; side++) {
                int all = 0;
                for (int r = 0; r <= x.of(0, 1); r++) {
                    all += x.ranks(0, side, r);
                }
                Due.is("all of side " + side + " of " + text, all, x.of(0, 2) - 1);
            }
        }
        Due.is("a field has none of rank 0", Due.told(FIELD_OF_4).ranks(0, 0, 0), 0);
    }

    private static void ranksOfEachSide() {
        Due.sentence("Term 3", "or of the form of the digits of x: sum over k of digit k of x times c(i, j, k) (third)");
        int[][] due = {{1, 0, 2}, {0, 3, 0}, {0, 3, 0}};
        NeedNotJoin x = Due.told(LEFT_UNIT);
        NeedNotJoin y = Due.told(RIGHT_UNIT);
        int[] other = {1, 0, 2};
        for (int side = 0; side < 3; side++) {
            for (int r = 0; r < 3; r++) {
                Due.is("left unit, side " + side + " rank " + r, x.ranks(0, side, r), due[side][r]);
                Due.is("right unit, side " + side + " rank " + r, y.ranks(0, other[side], r), due[side][r]);
            }
        }
        NeedNotJoin z = Due.told("order 3 5;at 0 0 0 0 0 0 2;");
        Due.is("left, all with a digit 0", z.ranks(0, 0, 1), 162);
        Due.is("right, all with a digit 0", z.ranks(0, 1, 1), 162);
        Due.is("third, all with a digit 4", z.ranks(0, 2, 1), 162);
        Due.is("third, all without it", z.ranks(0, 2, 0), 80);
    }

    private static void powers() {
        Due.sentence("Term 3", "POWERS of x: x, x x, (x x) x, ..: how many unlike ones till one comes again");
        NeedNotJoin x = Due.told(FIELD_OF_243);
        Due.is("nought again at once", x.powers(0, 0), 1);
        Due.is("one again at once", x.powers(0, 1), 1);
        Due.is("two, then one", x.powers(0, 2), 2);
        Due.is("t: all but nought", x.powers(0, 3), 242);
        NeedNotJoin y = new NeedNotJoin();
        Due.is("one, then nought", y.powers(0, 1), 2);
        Due.text(y, 0, "order 2 3;at 0 0 0 1 0;at 1 0 0 0 1;at 2 0 0 1 0;");
        Due.is("back to the second", y.powers(0, 1), 3);
        Due.text(y, 0, "order 2 3;at 0 0 0 1 0;at 1 0 0 0 1;at 0 1 1 0 0;");
        Due.is("(x x) x, not x (x x)", y.powers(0, 1), 4);
        Due.text(y, 0, "order 3 5;at 0 0 0 1 0 0 0;at 1 0 0 0 1 0 0;at 2 0 0 0 0 1 0;at 3 0 0 0 0 0 1;");
        Due.is("all base elements, then nought", y.powers(0, 1), 6);
    }

    private static void idempotents() {
        Due.sentence("Term 3", "IDEMPOTENT: x x = x");
        Due.is("nought alone", of("order 3 5;", 13), 1);
        Due.is("nought and one", of(FIELD_OF_243, 13), 2);
        Due.is("all", of(DIGITS_ALONE, 13), 32);
        Due.is("nought and 3, as 2 3 3 is 3", of("order 5 1;at 0 0 2;", 13), 2);
    }

    private static void squares() {
        Due.sentence("Term 3", "SQUARES: how many unlike x x there are");
        Due.is("nought alone", of("order 3 5;", 15), 1);
        Due.is("all", of(DIGITS_ALONE, 15), 32);
        Due.is("half of them and nought", of(FIELD_OF_243, 15), 122);
        Due.is("0 and 1", of(ONE_OF_TWO, 15), 2);
    }

    private static void derivations() {
        Due.sentence("Term 3", "DERIVATIONS: the greatest number of maps D (sums go to sums) independent of one another");
        Due.is("noughts of size 1: all maps", of("", 16), 1);
        Due.is("noughts of size 5: all maps", of("order 3 5;", 16), 25);
        Due.is("a field: none", of(FIELD_OF_243, 16), 0);
        Due.is("one of two: none", of(ONE_OF_TWO, 16), 0);
        Due.is("t t = 0 over 3: one", of("order 3 2;field 0 0;", 16), 1);
        Due.is("t t = 0 over 2: 1 may go nowhere, t anywhere", of("order 2 2;field 0 0;", 16), 2);
        Due.is("matrices: as many as 4 less the centre's 1", of(MATRICES, 16), 3);
    }

    private static void triples() {
        Due.sentence("Term 3", "TRIPLES: of triples (D, E, G) with D(x) y + x E(y) = G(x y) likewise");
        Due.is("noughts of size 1: all", of("", 17), 3);
        Due.is("noughts of size 5: all", of("order 3 5;", 17), 75);
        Due.is("one of two", of(ONE_OF_TWO, 17), 2);
        Due.is("one of five", of("order 5 1;at 0 0 3;", 17), 2);
        Due.is("the field of 243", of(FIELD_OF_243, 17), 10);
    }

    private static void spans() {
        Due.sentence("Term 3", "SPAN of x, y: how many ELEMENTS the least set has that has both");
        NeedNotJoin x = Due.told(FIELD_OF_243);
        Due.is("nought alone", x.span(0, 0, 0), 1);
        Due.is("one", x.span(0, 1, 1), 3);
        Due.is("one and nought", x.span(0, 1, 0), 3);
        Due.is("nought and one", x.span(0, 0, 1), 3);
        Due.is("all by t", x.span(0, 3, 0), 243);
        Due.is("all by the last", x.span(0, 0, 242), 243);
    }

    private static void sumsAndProducts() {
        Due.sentence("Term 3", "with any two their sum and PRODUCT");
        NeedNotJoin x = Due.told("order 3 5;");
        Due.is("one with itself: 0, 1 and 2", x.span(0, 1, 1), 3);
        Due.is("one and two", x.span(0, 1, 2), 3);
        Due.is("sums of two alone", x.span(0, 1, 81), 9);
        Due.text(x, 0, "order 3 5;at 0 0 0 1 0 0 0;at 1 1 0 0 1 0 0;at 2 2 0 0 0 1 0;at 3 3 0 0 0 0 1;");
        Due.is("products of products, four deep", x.span(0, 1, 0), 243);
        Due.is("from the last base element on", x.span(0, 81, 0), 3);
        Due.is("from the one before it", x.span(0, 27, 0), 9);
        Due.text(x, 0, "order 2 3;at 1 0 0 0 1;");
        Due.is("a product in one order alone", x.span(0, 1, 2), 8);
        Due.is("told the other way round", x.span(0, 2, 1), 8);
    }
}
