/** Term 4, maps, likeness, planes, lists and the image: a test for each sentence that names a case at a bound. */
public final class TermFourTest {
    private static final int NO = NeedNotJoin.NONE;
    private static final String ONE_OF_TWO = "order 2 1;at 0 0 1;";
    private static final String FIELD_OF_4 = "order 2 2;field 1 1;";
    private static final String FIELD_OF_16 = "order 2 4;field 1 1 0 0;";
    /** It divides, with the unit 1, and neither commutes nor joins: no field. */
    private static final String NO_FIELD = "order 2 4;at 0 0 1 0 0 0;at 0 1 0 1 0 0;at 0 2 0 0 1 0;at 0 3 0 0 0 1;"
        + "at 1 0 0 1 0 0;at 1 1 1 0 1 1;at 1 2 1 0 0 1;at 1 3 1 1 0 0;at 2 0 0 0 1 0;at 2 1 0 1 1 1;at 2 2 0 1 0 0;"
        + "at 2 3 1 0 0 1;at 3 0 0 0 0 1;at 3 1 0 1 0 1;at 3 2 1 0 0 0;at 3 3 1 1 1 1;";
    /** Products of the elements 0 to 3 of the field of four; their sums are those of bits. */
    private static final int[][] BY_4 = {{0, 0, 0, 0}, {0, 1, 2, 3}, {0, 2, 3, 1}, {0, 3, 1, 2}};

    private TermFourTest() {
    }

    public static void main(String[] args) {
        threeMaps();
        themselvesAtFirst();
        sumsGoToSums();
        likePAndN();
        allThreeOneToOne();
        forAll();
        firstThatFail();
        aheadOfThat();
        firstMapNotOneToOne();
        partedLikePAndN();
        partedByEach();
        partedByTheFirst();
        samenessOrder();
        samenessLike();
        samenessCounts();
        isotopesOrder();
        isotopesDivide();
        isotopesUnit();
        isotopesCounts();
        planeDivides();
        pointsAndLines();
        incidence();
        linesOfOneX();
        farPoints();
        lastPoint();
        joinsOfUnlike();
        meetsOfUnlike();
        noThreeOnOneLine();
        fano();
        planarOdd();
        planarForAll();
        listedSizes();
        listedWorlds();
        listOrder();
        imageKeepsAll();
        imageWithoutTapeAndFault();
        imageMoreThanOnce();
        imageAsItWas();
        Due.end();
    }

    private static NeedNotJoin two(String first, String second) {
        NeedNotJoin x = Due.told(first);
        Due.is("told " + second, Due.text(x, 1, second) > 0, true);
        return x;
    }

    private static void threeMaps() {
        Due.sentence("Term 4", "MAPS 0, 1, 2 (F, G, H)");
        NeedNotJoin x = new NeedNotJoin();
        Due.is("the first", x.map(0, 0, 1), true);
        Due.is("the last", x.map(2, 0, 1), true);
        Due.is("one behind it", x.map(3, 0, 1), false);
        Due.is("one ahead of the first", x.map(-1, 0, 1), false);
    }

    private static void themselvesAtFirst() {
        Due.sentence("Term 4", "themselves at first");
        for (String text : new String[] {"", ONE_OF_TWO, "order 3 5;field 2 1 0 0 0;", "order 5 3;at 2 1 0 4 3;"}) {
            NeedNotJoin x = two(text, text);
            Due.is("they carry it to its like", x.carry(0, 1), NO);
            Due.is("they carry it to itself", x.carry(0, 0), NO);
        }
    }

    private static void sumsGoToSums() {
        Due.sentence("Term 4", "sums go to sums, by digits of the number p");
        NeedNotJoin x = two("order 5 2;at 0 0 3 4;", "order 5 2;at 0 0 4 2;");
        x.map(2, 0, 1 + 5 * 2);
        x.map(2, 1, 5 * 4);
        Due.is("3 + 4 t goes to 3 + 6 t + 16 t", x.carry(0, 1), 0);
        x.digit(1, 0, 0, 0, 3);
        Due.is("which is 3 + 2 t", x.carry(0, 1), NO);
    }

    private static void likePAndN() {
        Due.sentence("Term 4", "They carry WORLD a to WORLD b (like p, n)");
        NeedNotJoin x = two("order 2 2;", "order 3 2;");
        Due.text(x, 2, "order 2 3;");
        Due.is("unlike p", x.carry(0, 1), NO - 1);
        Due.is("unlike n", x.carry(0, 2), NO - 1);
        Due.is("unlike n", x.carry(2, 0), NO - 1);
        Due.is("alike", x.carry(0, 0), NO);
    }

    private static void allThreeOneToOne() {
        Due.sentence("Term 4", "if all three are one to one");
        int[][] spoils = {{0, 0}, {0, 2}, {0, 5}, {0, 7}, {1, 0}, {1, 4}, {2, 0}, {2, 1}, {2, 3}};
        int[][] leaves = {{0, 4}, {1, 6}, {1, 3}, {2, 4}, {2, 6}, {2, 7}};
        for (int m = 0; m < 3; m++) {
            for (int[] one : spoils) {
                Due.is("map " + m + ", " + one[0] + " to " + one[1], carriedWith(m, one), 100 + m);
            }
            for (int[] one : leaves) {
                Due.is("map " + m + ", " + one[0] + " to " + one[1], carriedWith(m, one), NO);
            }
        }
        NeedNotJoin x = Due.told("order 3 1;");
        x.map(1, 0, 2);
        Due.is("2 for 1 over 3", x.carry(0, 0), NO);
        x.map(1, 0, 0);
        Due.is("0 for 1", x.carry(0, 0), 101);
        NeedNotJoin y = Due.told("order 3 2;");
        y.map(1, 1, 2);
        Due.is("2 is twice 1", y.carry(0, 0), 101);
    }

    /** A map of 1, 2 and 4 to 1, 2 and 5 with one image put anew; noughts are carried by all that is one to one. */
    private static int carriedWith(int m, int[] one) {
        NeedNotJoin x = Due.told("order 2 3;");
        x.map(m, 2, 5);
        x.map(m, one[0], one[1]);
        return x.carry(0, 0);
    }

    /** In the field of four 2 times 3 is 1, so F by 2, G by 3 and H by 1 carry; by 2 and 2 they would need 3. */
    private static void forAll() {
        Due.sentence("Term 4", "and F(x) G(y) (by b) = H(x y) (by a) for all");
        int[][] by = {{2, 3, 1}, {3, 2, 1}, {2, 2, 3}, {2, 1, 2}, {1, 3, 3}};
        for (int[] three : by) {
            for (int off = 0; off < 4; off++) {
                NeedNotJoin x = Due.told(FIELD_OF_4);
                for (int m = 0; m < 3; m++) {
                    int factor = m == off ? BY_4[three[m]][2] : three[m];
                    x.map(m, 0, factor);
                    x.map(m, 1, BY_4[factor][2]);
                }
                Due.is("by " + three[0] + " and " + three[1], x.carry(0, 0), off == 3 ? NO : 0);
            }
        }
    }

    private static void firstThatFail() {
        Due.sentence("Term 4", "else the first BASE ELEMENTS x, y that fail (5 i + j)");
        Due.is("the first", two("order 3 5;", "order 3 5;at 0 0 1 0 0 0 0;").carry(0, 1), 0);
        Due.is("the last", two("order 3 5;", "order 3 5;at 4 4 0 0 0 0 2;").carry(0, 1), 24);
        Due.is("by i ahead of j", two("order 3 2;", "order 3 2;at 0 1 1 0;at 1 0 1 0;").carry(0, 1), 1);
        Due.is("by 5, whatever the size", two("order 3 2;", "order 3 2;at 1 0 1 0;").carry(0, 1), 5);
        Due.is("none", two("order 3 5;", "order 3 5;").carry(0, 1), NO);
    }

    private static void aheadOfThat() {
        Due.sentence("Term 4", "ahead of that, the first MAP that is not one to one");
        for (int m = 0; m < 3; m++) {
            NeedNotJoin x = two("order 2 2;", "order 2 2;at 0 0 1 0;");
            Due.is("they fail at once", x.carry(0, 1), 0);
            x.map(m, 1, 1);
            Due.is("map " + m + " is told ahead", x.carry(0, 1), 100 + m);
        }
    }

    private static void firstMapNotOneToOne() {
        Due.sentence("Term 4", "the first MAP that is not one to one (100 and its number)");
        NeedNotJoin x = Due.told(FIELD_OF_4);
        x.map(2, 0, 0);
        Due.is("the last alone", x.carry(0, 0), 102);
        x.map(1, 0, 2);
        Due.is("the last two", x.carry(0, 0), 101);
        x.map(0, 1, 1);
        Due.is("all three", x.carry(0, 0), 100);
    }

    private static void partedLikePAndN() {
        Due.sentence("Term 4", "PARTED are two WORLDS (like p, n)");
        NeedNotJoin x = two("order 2 2;", "order 3 2;");
        Due.text(x, 2, "order 2 3;");
        Due.is("unlike p", x.parted(0, 1), NO - 1);
        Due.is("unlike n", x.parted(2, 0), NO - 1);
        Due.is("alike", x.parted(2, 2), NO);
    }

    private static void partedByEach() {
        Due.sentence("Term 4", "if RANKS left (0), right (1) or third (2), or TRIPLES (3) are unlike");
        Due.is("left", two("order 2 2;", "order 2 2;at 0 0 1 0;").parted(0, 1), 0);
        NeedNotJoin x = two("order 2 2;at 0 0 0 1;at 1 0 1 0;", "order 2 2;at 0 1 1 0;at 1 0 1 0;");
        Due.is("right", x.parted(0, 1), 1);
        x = two("order 2 3;at 1 2 1 0 0;at 2 1 0 0 1;at 2 2 0 1 1;",
            "order 2 3;at 0 2 1 0 1;at 2 0 1 0 1;at 2 2 0 1 0;");
        Due.is("third", x.parted(0, 1), 2);
        x = two("order 2 3;at 0 1 1 0 1;at 0 2 0 1 0;at 1 0 1 0 0;at 1 2 0 1 0;",
            "order 2 3;at 1 0 0 0 1;at 1 1 1 0 0;at 2 1 0 1 0;at 2 2 0 0 1;");
        Due.is("triples", x.parted(0, 1), 3);
        Due.is("triples, the other way round", x.parted(1, 0), 3);
        Due.is("nothing", x.parted(1, 1), NO);
    }

    private static void partedByTheFirst() {
        Due.sentence("Term 4", "the first of these");
        NeedNotJoin x = two("order 2 2;", FIELD_OF_4);
        Due.is("left, right, third and triples are unlike", x.parted(0, 1), 0);
        x = two("order 2 2;at 0 0 0 1;at 1 0 1 0;", "order 2 2;at 0 1 1 0;at 1 0 1 0;");
        Due.is("right and third are unlike", x.parted(0, 1), 1);
        Due.is("third, rank 0", x.ranks(0, 2, 0) * 10 + x.ranks(1, 2, 0), 1);
    }

    private static void samenessOrder() {
        Due.sentence("Term 4", "SAMENESS (ORDER 27 at most");
        String[] can = {"order 3 3;", "order 5 2;", "order 2 4;", "order 2 1;"};
        long[] due = {26 * 24 * 18, 24 * 20, 15 * 14 * 12 * 8, 1};
        for (int i = 0; i < can.length; i++) {
            Due.is("noughts of " + can[i], Due.told(can[i]).same(0, 0), due[i]);
        }
        for (String text : new String[] {"order 2 5;", "order 3 4;", "order 5 3;", "order 3 5;"}) {
            Due.is("noughts of " + text, Due.told(text).same(0, 0), NO);
        }
    }

    private static void samenessLike() {
        Due.sentence("Term 4", "p, n alike");
        NeedNotJoin x = two("order 3 3;", "order 3 2;");
        Due.text(x, 2, "order 2 3;");
        Due.is("n unlike", x.same(0, 1), NO);
        Due.is("n unlike", x.same(1, 0), NO);
        Due.is("p unlike", x.same(0, 2), NO);
        Due.is("p unlike", x.same(2, 0), NO);
    }

    private static void samenessCounts() {
        Due.sentence("Term 4", "how many one-to-one MAPS M with M(x) M(y) = M(x y), from a to b");
        Due.is("none", two("order 2 2;", FIELD_OF_4).same(0, 1), 0);
        Due.is("none, the other way round", two(FIELD_OF_4, "order 2 2;").same(0, 1), 0);
        Due.is("itself alone", Due.told(ONE_OF_TWO).same(0, 0), 1);
        Due.is("both roots", Due.told(FIELD_OF_4).same(0, 0), 2);
        NeedNotJoin x = two("order 3 2;field 1 1;", "order 3 2;field 2 0;");
        Due.is("from the one field of nine to the other", x.same(0, 1), 2);
        Due.is("of no field", Due.told(NO_FIELD).same(0, 0), 3);
        NeedNotJoin z = two(FIELD_OF_4, "order 2 2;");
        Due.is("isotopes", z.isotopes(0, 0), 18);
        Due.is("behind isotopes: noughts", z.same(1, 1), 3 * 2);
        for (int a = 0; a < 64; a++) {
            NeedNotJoin y = two("order 2 2;", "order 2 2;");
            y.digit(0, a / 8 / 4, a / 8 / 2 % 2, a / 8 % 2, 1);
            y.digit(1, a % 8 / 4, a / 2 % 2, a % 2, 1);
            Due.is("one digit each, " + a, y.same(0, 1), oneDigit(a / 8).same(oneDigit(a % 8)));
        }
    }

    private static Brute oneDigit(int at) {
        int[][][] cube = new int[2][2][2];
        cube[at / 4][at / 2 % 2][at % 2] = 1;
        return new Brute(2, 2, cube);
    }

    private static void isotopesOrder() {
        Due.sentence("Term 4", "ISOTOPES (ORDER 16 at most");
        Due.is("16", Due.told(FIELD_OF_16).isotopes(0, 0), 15 * 15 * 4);
        Due.is("2", Due.told(ONE_OF_TWO).isotopes(0, 0), 1);
        Due.is("9", Due.told("order 3 2;field 1 1;").isotopes(0, 0), 8 * 8 * 2);
        Due.is("25", Due.told("order 5 2;field 2 0;").isotopes(0, 0), NO);
        Due.is("27", Due.told("order 3 3;field 2 1 0;").isotopes(0, 0), NO);
        Due.is("32", Due.told("order 2 5;field 1 0 1 0 0;").isotopes(0, 0), NO);
    }

    private static void isotopesDivide() {
        Due.sentence("Term 4", "both DIVIDE");
        NeedNotJoin x = two(FIELD_OF_4, "order 2 2;at 0 0 1 0;at 0 1 0 1;at 1 0 0 1;");
        Due.is("both", x.isotopes(0, 0), 3 * 3 * 2);
        Due.is("b does not", x.isotopes(0, 1), NO);
        Due.is("b has the unit 1", x.of(1, 5), 1);
        Due.is("a does not", x.isotopes(1, 0), NO);
        Due.is("neither", x.isotopes(1, 1), NO);
    }

    private static void isotopesUnit() {
        Due.sentence("Term 4", "a with the UNIT 1");
        NeedNotJoin x = Due.told("order 3 2;field 2 0;");
        x.unital(0, 1, 3);
        Due.text(x, 2, "order 3 2;field 2 0;twist 4 0 1;");
        Due.is("another unit", x.of(1, 5), 2);
        Due.is("no unit", x.of(2, 5), NO);
        Due.is("a with another unit", x.isotopes(1, 0), NO);
        Due.is("a with no unit", x.isotopes(2, 0), NO);
        Due.is("b with another unit", x.isotopes(0, 1), 128);
        Due.is("b with no unit", x.isotopes(0, 2), 128);
    }

    private static void isotopesCounts() {
        Due.sentence("Term 4", "how many triples (F, G, H) carry a to b");
        NeedNotJoin x = two(FIELD_OF_16, NO_FIELD);
        Due.is("a field", x.isotopes(0, 0), 900);
        Due.is("no field", x.isotopes(1, 1), 18);
        Due.is("none from a field to none", x.isotopes(0, 1), 0);
        Due.is("none from none to a field", x.isotopes(1, 0), 0);
        x.turn(1, 2, 2);
        Due.is("turned, without a unit", x.of(2, 5), NO);
        Due.is("to the turned one", x.isotopes(1, 2), 18);
    }

    private static void planeDivides() {
        Due.sentence("Term 4", "The PLANE of a WORLD that DIVIDES");
        NeedNotJoin x = Due.told(FIELD_OF_4);
        Due.is("it does", x.plane(0, 0, 1, 0), 16);
        x.digit(0, 1, 1, 0, 0);
        Due.is("it does no more", x.plane(0, 0, 1, 0), NO);
        Due.is("it does no more", x.plane(0, 0, 1, 1), NO);
        Due.is("it does no more", x.plane(0, 0, 1, 2), NO);
        Due.is("it does no more", x.fano(0, 0, 1, 4, 5), NO);
        x.undo(true);
        Due.is("it does again", x.plane(0, 0, 1, 0), 16);
    }

    private static void pointsAndLines() {
        Due.sentence("Term 4", "POINTS q x + y (of x, y), q q + m, and q q + q; LINES q m + b, q q + c, and q q + q");
        for (String text : new String[] {ONE_OF_TWO, FIELD_OF_4, "order 3 5;field 2 1 0 0 0;"}) {
            NeedNotJoin x = Due.told(text);
            int q = x.of(0, 2);
            int last = q * q + q;
            Due.is("the last point is on the last line", x.plane(0, last, last, 2), 1);
            Due.is("the last but one is on it", x.plane(0, last - 1, last, 2), 1);
            Due.is("the first far one is on it", x.plane(0, q * q, last, 2), 1);
            Due.is("the last near one is not", x.plane(0, q * q - 1, last, 2), 0);
            Due.is("the first is on the first", x.plane(0, 0, 0, 2), 1);
            Due.is("no point behind the last", x.plane(0, last + 1, 0, 2), NO);
            Due.is("no line behind the last", x.plane(0, 0, last + 1, 2), NO);
            Due.is("no point below 0", x.plane(0, -1, 0, 2), NO);
            Due.is("no line below 0", x.plane(0, 0, -1, 2), NO);
        }
    }

    private static boolean isOnBy4(int point, int line) {
        if (point == 20 || line == 20) {
            return point >= 16 && line >= 16;
        }
        if (point >= 16 || line >= 16) {
            return point < 16 ? line - 16 == point / 4 : line < 16 && line / 4 == point - 16;
        }
        return point % 4 == (BY_4[line / 4][point / 4] ^ line % 4);
    }

    private static void incidence() {
        Due.sentence("Term 4", "(x, y) is on the LINE (m, b), if y = m x + b");
        NeedNotJoin x = Due.told(FIELD_OF_4);
        for (int point = 0; point < 21; point++) {
            for (int line = 0; line < 21; line++) {
                Due.is(point + " on " + line, x.plane(0, point, line, 2), isOnBy4(point, line) ? 1 : 0);
            }
        }
        NeedNotJoin y = Due.told("order 3 2;field 1 1;twist 3 1 0;");
        Due.is("this one does not commute", y.of(0, 3) * 2 + y.of(0, 6), 2);
        for (int m = 1; m < 9; m += 3) {
            for (int a = 0; a < 9; a++) {
                Due.is("m x, not x m", y.plane(0, 9 * a + y.product(0, m, a), 9 * m, 2), 1);
            }
        }
    }

    private static void linesOfOneX() {
        Due.sentence("Term 4", "on q q + c, if x = c");
        NeedNotJoin x = Due.told(FIELD_OF_4);
        for (int point = 0; point < 16; point++) {
            for (int c = 0; c < 4; c++) {
                Due.is(point + " on x = " + c, x.plane(0, point, 16 + c, 2), point / 4 == c ? 1 : 0);
            }
            Due.is(point + " on the last line", x.plane(0, point, 20, 2), 0);
        }
    }

    private static void farPoints() {
        Due.sentence("Term 4", "q q + m is on all LINES (m, b) and on the last one");
        NeedNotJoin x = Due.told(FIELD_OF_4);
        for (int m = 0; m < 4; m++) {
            for (int line = 0; line < 21; line++) {
                Due.is("slope " + m + " on " + line, x.plane(0, 16 + m, line, 2), line / 4 == m || line == 20 ? 1 : 0);
            }
        }
    }

    private static void lastPoint() {
        Due.sentence("Term 4", "the last POINT is on all q q + c and on the last LINE");
        NeedNotJoin x = Due.told(FIELD_OF_4);
        for (int line = 0; line < 21; line++) {
            Due.is("on " + line, x.plane(0, 20, line, 2), line >= 16 ? 1 : 0);
        }
    }

    private static void joinsOfUnlike() {
        Due.sentence("Term 4", "JOIN of two unlike POINTS");
        NeedNotJoin x = Due.told(FIELD_OF_4);
        for (int u = 0; u < 21; u++) {
            for (int v = 0; v < 21; v++) {
                int due = NO;
                for (int line = 0; line < 21 && u != v; line++) {
                    due = isOnBy4(u, line) && isOnBy4(v, line) ? line : due;
                }
                Due.is("join of " + u + " and " + v, x.plane(0, u, v, 0), due);
            }
        }
        NeedNotJoin y = Due.told("order 3 2;field 1 1;twist 3 1 0;");
        for (int u = 0; u < 81; u += 7) {
            for (int v = 90; v > u; v -= 11) {
                int line = y.plane(0, u, v, 0);
                Due.is(u + " is on it", y.plane(0, u, line, 2), 1);
                Due.is(v + " is on it", y.plane(0, v, line, 2), 1);
            }
        }
    }

    private static void meetsOfUnlike() {
        Due.sentence("Term 4", "MEET of two unlike LINES");
        NeedNotJoin x = Due.told(FIELD_OF_4);
        for (int u = 0; u < 21; u++) {
            for (int v = 0; v < 21; v++) {
                int due = NO;
                for (int point = 0; point < 21 && u != v; point++) {
                    due = isOnBy4(point, u) && isOnBy4(point, v) ? point : due;
                }
                Due.is("meet of " + u + " and " + v, x.plane(0, u, v, 1), due);
            }
        }
        NeedNotJoin y = Due.told("order 3 2;field 1 1;twist 3 1 0;");
        for (int u = 0; u < 81; u += 7) {
            for (int v = 90; v > u; v -= 11) {
                int point = y.plane(0, u, v, 1);
                Due.is("it is on " + u, y.plane(0, point, u, 2), 1);
                Due.is("it is on " + v, y.plane(0, point, v, 2), 1);
            }
        }
    }

    /** Of the seven points of the least plane, four have no three on one line if the other three are a line. */
    private static void noThreeOnOneLine() {
        Due.sentence("Term 4", "Four POINTS no three of which are on one LINE");
        NeedNotJoin x = Due.told(ONE_OF_TWO);
        int[][] lines = {{0, 2, 4}, {1, 3, 4}, {0, 3, 5}, {1, 2, 5}, {0, 1, 6}, {2, 3, 6}, {4, 5, 6}};
        for (int out = 0; out < 128; out++) {
            if (Integer.bitCount(out) != 3) {
                continue;
            }
            boolean isLine = false;
            for (int[] line : lines) {
                isLine = isLine || out == (1 << line[0] | 1 << line[1] | 1 << line[2]);
            }
            int[] four = new int[4];
            int many = 0;
            for (int point = 0; point < 7; point++) {
                if ((out >> point & 1) == 0) {
                    four[many++] = point;
                }
            }
            Due.is("all but " + out, x.fano(0, four[0], four[1], four[2], four[3]), isLine ? 1 : NO);
            Due.is("all but " + out + " turned", x.fano(0, four[3], four[1], four[0], four[2]), isLine ? 1 : NO);
        }
    }

    private static void fano() {
        Due.sentence("Term 4", "FANO: whether the MEETS of JOINS");
        Due.is("the least plane", Due.told(ONE_OF_TWO).fano(0, 0, 1, 2, 3), 1);
        Due.is("p 2", Due.told(FIELD_OF_4).fano(0, 0, 5, 16, 20), 1);
        Due.is("p 3", Due.told("order 3 1;field 0;").fano(0, 0, 1, 3, 4), 0);
        Due.is("p 5, far out", Due.told("order 5 1;field 0;").fano(0, 0, 6, 25, 30), 0);
        Due.is("p 3, far out", Due.told("order 3 1;field 0;").fano(0, 0, 4, 9, 12), 0);
        NeedNotJoin x = Due.told(NO_FIELD);
        Due.is("no field: not on one line", x.fano(0, 5, 194, 90, 46), 0);
        Due.is("no field: on one line", x.fano(0, 17, 23, 154, 144), 1);
        Due.is("no field: on one line, far out", x.fano(0, 64, 261, 262, 131), 1);
        Due.is("no field: not on one line, far out", x.fano(0, 42, 267, 138, 136), 0);
    }

    private static void planarOdd() {
        Due.sentence("Term 4", "PLANAR (p odd)");
        Due.is("p 2", Due.told(FIELD_OF_4).of(0, 14), NO);
        Due.is("p 2, noughts", Due.told("").of(0, 14), NO);
        Due.is("p 3", Due.told("order 3 2;field 1 1;").of(0, 14), 1);
        Due.is("p 5", Due.told("order 5 3;field 3 1 0;").of(0, 14), 1);
    }

    private static void planarForAll() {
        Due.sentence("Term 4", "for all a unlike 0 x to (x + a)(x + a) less x x less a a is one to one");
        Due.is("noughts", Due.told("order 3 1;").of(0, 14), 0);
        Due.is("x y and y x cancel", Due.told("order 3 2;at 0 1 1 0;at 1 0 2 0;").of(0, 14), 0);
        Due.is("for all a but multiples of t", Due.told("order 3 2;at 0 0 1 0;at 0 1 0 1;").of(0, 14), 0);
        Due.is("it need not divide", Due.told("order 5 2;at 0 0 1 0;at 1 1 2 0;at 0 1 0 1;").of(0, 14), 1);
        Due.is("this does not", Due.told("order 5 2;at 0 0 1 0;at 1 1 2 0;at 0 1 0 1;").of(0, 3), 0);
    }

    private static void listedSizes() {
        Due.sentence("Term 4", "LISTS (p, n: 2 2, 2 3, 3 2, 5 2)");
        NeedNotJoin x = new NeedNotJoin();
        for (int p = -1; p < 8; p++) {
            for (int n = -1; n < 7; n++) {
                int due = p == 2 && n == 2 ? 1 : p == 2 && n == 3 ? 8 : p == 3 && n == 2 ? 3 : p == 5 && n == 2 ? 10 : NO;
                Due.is("list " + p + " " + n, x.list(p, n, 0), due);
                Due.is("take " + p + " " + n, x.take(p, n, 0, 0), due != NO);
            }
        }
    }

    private static void listedWorlds() {
        Due.sentence("Term 4", "all CUBES with the UNIT 1 that DIVIDE");
        int[][] lists = {{2, 2, 1}, {2, 3, 8}, {3, 2, 3}, {5, 2, 10}};
        for (int[] list : lists) {
            NeedNotJoin x = new NeedNotJoin();
            for (int i = 0; i < list[2]; i++) {
                Due.is("taken", x.take(list[0], list[1], i, 3), true);
                Due.is("p", x.of(3, 0), list[0]);
                Due.is("n", x.of(3, 1), list[1]);
                Due.is("the unit", x.of(3, 5), 1);
                Due.is("it divides", x.of(3, 3), 1);
            }
            Due.is("one behind the last", x.take(list[0], list[1], list[2], 3), false);
            Due.is("one ahead of the first", x.take(list[0], list[1], -1, 3), false);
        }
    }

    /** t t = c 0 + c 1 t without a root: these couples of p 5, and those of p 3. */
    private static void listOrder() {
        Due.sentence("Term 4", "as a number to the base of p, c(0, 0, 0) highest");
        int[] of5 = {12, 13, 20, 22, 23, 30, 31, 34, 41, 44};
        int[] of3 = {11, 12, 20};
        NeedNotJoin x = new NeedNotJoin();
        for (int i = 0; i < 10; i++) {
            Due.is("of 5", x.take(5, 2, i, 0), true);
            Due.is("t t of 5, " + i, 10 * x.cube(0, 1, 1, 0) + x.cube(0, 1, 1, 1), of5[i]);
        }
        for (int i = 0; i < 3; i++) {
            Due.is("of 3", x.take(3, 2, i, 0), true);
            Due.is("t t of 3, " + i, 10 * x.cube(0, 1, 1, 0) + x.cube(0, 1, 1, 1), of3[i]);
        }
        Due.is("of 2", x.take(2, 2, 0, 0), true);
        Due.is("t t of 2", 10 * x.cube(0, 1, 1, 0) + x.cube(0, 1, 1, 1), 11);
        long before = -1;
        for (int i = 0; i < 8; i++) {
            Due.is("of 8", x.take(2, 3, i, 0), true);
            long number = 0;
            for (int at = 0; at < 27; at++) {
                number = 2 * number + x.cube(0, at / 9, at / 3 % 3, at % 3);
            }
            Due.is("of 8, " + i + " is above the one before", number > before, true);
            before = number;
        }
    }

    private static void imageKeepsAll() {
        Due.sentence("Term 4", "THE IMAGE: all that is and was told");
        NeedNotJoin x = Due.told(FIELD_OF_4);
        x.turn(0, 5, 0);
        x.digit(5, 1, 1, 1, 0);
        x.undo(true);
        x.map(2, 4, 242);
        String before = Due.state(x);
        x.image(true);
        x.take(2, 2, 0, 3);
        x.digit(0, 0, 0, 0, 0);
        x.map(2, 4, 0);
        x.map(0, 0, 3);
        x.undo(true);
        Due.is("gone back to", x.image(false), true);
        Due.stays("all that is told", x, before);
        Due.is("what was told: redone", x.undo(false), 5);
        Due.is("what was told: redone", x.cube(5, 1, 1, 1), 0);
        Due.is("what was told: undone", x.undo(true), 5);
        Due.is("what was told: undone", x.undo(true), 5);
        Due.is("what was told: undone", x.of(5, 2), 2);
        Due.is("what was told: undone", x.undo(true), 0);
        Due.is("what was told: undone", x.of(0, 2), 2);
        Due.is("no more was told", x.undo(true), NO);
    }

    private static void imageWithoutTapeAndFault() {
        Due.sentence("Term 4", "but the TAPE and fault()");
        NeedNotJoin x = new NeedNotJoin();
        Due.fault(x, "order 2 2;#", 1, 10);
        Due.feed(x, "order 3 1;");
        x.image(true);
        Due.is("told by the tape", x.text(1), 3);
        x.image(false);
        Due.is("the world is as it was", x.of(1, 2), 2);
        Due.is("the tape stays empty", x.end(1), false);
        Due.is("the fault stays none", x.fault(0), 0);
        Due.is("its place too", x.fault(1), NO);
        Due.fault(x, "order 9", 2, 6);
        Due.feed(x, "order 5 1;");
        x.image(false);
        Due.is("the fault stays", x.fault(0), 2);
        Due.is("its place stays", x.fault(1), 6);
        Due.is("the tape stays", x.text(1), 5);
    }

    private static void imageMoreThanOnce() {
        Due.sentence("Term 4", "gone back to it may be more than once");
        NeedNotJoin x = Due.told(FIELD_OF_4);
        String before = Due.state(x);
        x.image(true);
        for (int times = 0; times < 4; times++) {
            x.digit(0, 1, 1, times % 2, 0);
            x.undo(times % 2 == 0);
            x.map(0, times, times);
            Due.is("gone back to", x.image(false), true);
            Due.stays("time " + times, x, before);
        }
        Due.is("twice on end", x.image(false), true);
        Due.stays("twice on end", x, before);
    }

    private static void imageAsItWas() {
        Due.sentence("Term 4", "as it was when it was taken");
        NeedNotJoin x = new NeedNotJoin();
        x.image(true);
        x.digit(0, 0, 0, 0, 1);
        x.image(true);
        x.digit(1, 0, 0, 0, 1);
        x.image(false);
        Due.is("the later image", x.cube(0, 0, 0, 0), 1);
        Due.is("the later image", x.cube(1, 0, 0, 0), 0);
        x.undo(true);
        x.image(false);
        Due.is("acts behind it leave it", x.cube(0, 0, 0, 0), 1);
        Due.is("acts behind it leave it", x.look(0), 1);
    }
}
