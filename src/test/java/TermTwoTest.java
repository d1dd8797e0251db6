/** Term 2, texts, their faults and acts: a test for each sentence that names a case at a bound. */
public final class TermTwoTest {
    private static final int NO = NeedNotJoin.NONE;
    private static final String FORTY = "order 2 2;" + "turn 1;".repeat(39);

    private TermTwoTest() {
    }

    public static void main(String[] args) {
        statementsEndInStops();
        orderFirstOfAll();
        orderJustOnce();
        noStatements();
        asManyNumbersAsN();
        numbersBelowP();
        polynomialsWrap();
        fieldFromThereOn();
        twistByAnElement();
        twistPowers();
        twistBehindAField();
        rowPlaces();
        rowDigits();
        rowLength();
        turnsZeroToFive();
        turnedPlaces();
        letters();
        numbers();
        blanks();
        firstByPlace();
        leastAtOnePlace();
        whatCannotStand();
        theEnd();
        orderFaultPlaces();
        twistFaultPlaces();
        beyondBounds();
        orderAbove243();
        statement41();
        actsOnAWorld();
        last20Acts();
        redoneTillAnotherAct();
        Due.end();
    }

    private static void statementsEndInStops() {
        Due.sentence("Term 2", "TEXT = {STATEMENT ;}");
        NeedNotJoin x = new NeedNotJoin();
        Due.is("each ends in its stop", Due.text(x, 0, "order 2 2;turn 0;turn 0;"), 4);
        Due.fault(x, "order 2 2;turn 0", 1, 16);
        Due.fault(x, "order 2 2 turn 0;", 1, 10);
        Due.fault(x, "order 2 2;;turn 0;", 1, 10);
        Due.fault(x, "order 2 2;turn 0;;", 1, 17);
        Due.fault(x, ";", 1, 0);
    }

    private static void orderFirstOfAll() {
        Due.sentence("Term 2", "first of all");
        NeedNotJoin x = new NeedNotJoin();
        Due.is("order alone", Due.text(x, 0, "order 3 2;"), 9);
        Due.fault(x, "field 1;order 2 1;", 1, 0);
        Due.fault(x, "twist 0 0 0;", 1, 0);
        Due.fault(x, "at 0 0 0;", 1, 0);
        Due.fault(x, " \nturn 0;", 1, 2);
        Due.is("the world stays", x.of(0, 2), 9);
    }

    private static void orderJustOnce() {
        Due.sentence("Term 2", "and just once");
        NeedNotJoin x = new NeedNotJoin();
        Due.fault(x, "order 2 2;order 2 2;", 1, 10);
        Due.fault(x, "order 2 2;turn 0;\norder 3 2;", 1, 18);
        Due.is("once a text: another text has its own", Due.text(x, 0, "order 2 2;"), 4);
        Due.is("once a text: another text has its own", Due.text(x, 0, "order 2 2;"), 4);
    }

    private static void noStatements() {
        Due.sentence("Term 2", "a TEXT without STATEMENTS is a WORLD as at first");
        for (String text : new String[] {"", " ", "\n", "  \n \n"}) {
            NeedNotJoin x = Due.told("order 5 2;at 0 0 3 1;");
            Due.is("its order", Due.text(x, 0, text), 2);
            Due.is("p", x.of(0, 0), 2);
            Due.is("n", x.of(0, 1), 1);
            Due.is("nought", x.cube(0, 0, 0, 0), 0);
            Due.is("no fault", x.fault(0), 0);
            Due.is("an act", x.look(0), 2);
        }
    }

    private static void asManyNumbersAsN() {
        Due.sentence("Term 2", "field: as many N's as n");
        NeedNotJoin x = new NeedNotJoin();
        Due.is("one of one", Due.text(x, 0, "order 3 1;field 2;"), 3);
        Due.fault(x, "order 3 1;field ;", 1, 16);
        Due.fault(x, "order 3 1;field 2 2;", 1, 18);
        Due.is("five of five", Due.text(x, 0, "order 2 5;field 1 0 1 0 0;"), 32);
        Due.fault(x, "order 2 5;field 1 0 1 0;", 1, 23);
        Due.fault(x, "order 2 5;field 1 0 1 0 0 0;", 1, 26);
        Due.fault(x, "order 2 5;field 1 0 1 0", 1, 23);
    }

    private static void numbersBelowP() {
        Due.sentence("Term 2", "each below p");
        NeedNotJoin x = new NeedNotJoin();
        for (int p : new int[] {2, 3, 5}) {
            String start = "order " + p + " 2;field ";
            Due.is("p less 1 of " + p, Due.text(x, 0, start + (p - 1) + " " + (p - 1) + ";"), p * p);
            Due.is("noughts of " + p, Due.text(x, 0, start + "0 0;"), p * p);
            Due.fault(x, start + p + " 0;", 2, 16);
            Due.fault(x, start + "0 " + p + ";", 2, 18);
            Due.fault(x, start + "9999 0;", 2, 16);
        }
    }

    private static void polynomialsWrap() {
        Due.sentence("Term 2", "modulo t to the n less c n-1 t to the n-1 .. less c 0");
        NeedNotJoin x = Due.told("order 2 5;field 1 1 1 1 1;");
        Due.is("t4 by 1, nothing to take", x.product(0, 16, 1), 16);
        Due.is("t4 by t is all", x.product(0, 16, 2), 31);
        Due.is("t to the 6 is 1", x.product(0, 8, 8), 1);
        Due.is("t to the 8 is t t", x.product(0, 16, 16), 4);
        NeedNotJoin y = Due.told("order 3 5;field 2 1 0 0 0;");
        Due.is("t to the 8 is 2 t3 and t4", y.product(0, 81, 81), 2 * 27 + 81);
        Due.is("t to the 6 of 16", Due.told("order 2 4;field 1 1 0 0;").product(0, 8, 8), 4 + 8);
        NeedNotJoin u = Due.told("order 5 3;field 1 2 3;");
        Due.is("t to the 3", u.product(0, 5, 25), 1 + 2 * 5 + 3 * 25);
        Due.is("t to the 4", u.product(0, 25, 25), 3 + 2 * 5 + 25);
        for (int c = 0; c < 5; c++) {
            NeedNotJoin z = Due.told("order 5 1;field " + c + ";");
            Due.is("of one digit, all c 0 alike", z.product(0, 4, 4), 1);
        }
    }

    private static void fieldFromThereOn() {
        Due.sentence("Term 2", "it is the FIELD from there on");
        String field = "order 3 2;field 2 1;";
        NeedNotJoin x = Due.told(field + "twist 5 1 0;");
        String due = cells(x, 0);
        String[] between = {"at 0 0 0 0;at 1 1 2 2;", "turn 4;", "twist 7 0 1;", "field 2 0;field 2 1;"};
        for (String statements : between) {
            Due.text(x, 1, field + statements + "twist 5 1 0;");
            Due.is("by the field, behind " + statements, cells(x, 1).equals(due), true);
        }
        Due.text(x, 1, "order 3 2;field 2 1;field 2 0;twist 5 1 0;");
        Due.text(x, 2, "order 3 2;field 2 0;twist 5 1 0;");
        Due.is("by the later field", cells(x, 1).equals(cells(x, 2)), true);
    }

    private static String cells(NeedNotJoin x, int w) {
        int n = x.of(w, 1);
        StringBuilder cells = new StringBuilder();
        for (int at = 0; at < n * n * n; at++) {
            cells.append(x.cube(w, at / n / n, at / n % n, at % n));
        }
        return cells.toString();
    }

    private static void twistByAnElement() {
        Due.sentence("Term 2", "twist C A B (C an ELEMENT");
        NeedNotJoin x = Due.told("order 3 3;field 2 1 0;");
        String field = cells(x, 0);
        Due.is("nought", Due.text(x, 1, "order 3 3;field 2 1 0;twist 0 1 2;"), 27);
        Due.is("less nought is the field", cells(x, 1).equals(field), true);
        Due.is("one", Due.text(x, 1, "order 3 3;field 2 1 0;twist 1 0 0;"), 27);
        Due.is("x y less x y", cells(x, 1).equals("0".repeat(27)), true);
        Due.is("the last element", Due.text(x, 1, "order 3 3;field 2 1 0;twist 26 0 0;"), 27);
        Due.is("1 less 26", x.product(1, 1, 1), 2 + 3 + 9);
        Due.fault(x, "order 3 3;field 2 1 0;twist 27 0 0;", 2, 28);
        Due.is("the last of 243", Due.text(x, 1, "order 3 5;field 2 1 0 0 0;twist 242 4 4;"), 243);
        Due.fault(x, "order 3 5;field 2 1 0 0 0;twist 243 4 4;", 2, 32);
    }

    private static void twistPowers() {
        Due.sentence("Term 2", "A, B 0 .. 4): behind a FIELD");
        Brute field = read(Due.told("order 3 3;field 2 1 0;"), 0);
        for (int a = 0; a < 5; a++) {
            for (int b = 0; b < 5; b++) {
                NeedNotJoin x = Due.told("order 3 3;field 2 1 0;twist 14 " + a + " " + b + ";");
                for (int at = 0; at < 9; at++) {
                    int u = field.base(at / 3);
                    int v = field.base(at % 3);
                    int less = field.m[field.m[14][raised(field, u, a)]][raised(field, v, b)];
                    Due.is("twist 14 " + a + " " + b, x.product(0, u, v), field.minus(field.m[u][v], less));
                }
            }
        }
        NeedNotJoin x = new NeedNotJoin();
        Due.fault(x, "order 3 3;field 2 1 0;twist 0 5 0;", 2, 30);
        Due.fault(x, "order 3 3;field 2 1 0;twist 0 0 5;", 2, 32);
    }

    private static int raised(Brute field, int x, int often) {
        int times = (int) Math.round(Math.pow(field.p, often));
        int result = x;
        for (int i = 1; i < times; i++) {
            result = field.m[result][x];
        }
        return result;
    }

    private static Brute read(NeedNotJoin x, int w) {
        int n = x.of(w, 1);
        int[][][] cube = new int[n][n][n];
        for (int at = 0; at < n * n * n; at++) {
            cube[at / n / n][at / n % n][at % n] = x.cube(w, at / n / n, at / n % n, at % n);
        }
        return new Brute(x.of(w, 0), n, cube);
    }

    private static void twistBehindAField() {
        Due.sentence("Term 2", "behind a FIELD");
        NeedNotJoin x = new NeedNotJoin();
        Due.is("behind one", Due.text(x, 0, "order 2 2;field 1 1;twist 1 1 0;"), 4);
        Due.is("far behind one", Due.text(x, 0, "order 2 2;field 1 1;turn 1;turn 1;twist 1 1 0;"), 4);
        Due.fault(x, "order 2 2;twist 1 1 0;field 1 1;", 1, 10);
        Due.fault(x, "order 2 2;at 0 0 1 1;twist 1 1 0;", 1, 21);
        Due.is("a field of its own text", Due.text(x, 1, "order 2 2;field 1 1;"), 4);
        Due.text(x, 1, "order 2 2;twist 1 1 0;");
        Due.is("not that of an earlier text", x.fault(1), 10);
    }

    private static void rowPlaces() {
        Due.sentence("Term 2", "(I, J below n");
        NeedNotJoin x = new NeedNotJoin();
        Due.is("the greatest", Due.text(x, 0, "order 3 5;at 4 4 1 2 1 2 1;"), 243);
        Due.is("its first digit", x.cube(0, 4, 4, 0), 1);
        Due.is("its last digit but one", x.cube(0, 4, 4, 3), 2);
        Due.is("the least", Due.text(x, 0, "order 2 1;at 0 0 1;"), 2);
        Due.is("its digit", x.cube(0, 0, 0, 0), 1);
        Due.fault(x, "order 2 1;at 1 0 1;", 2, 13);
        Due.fault(x, "order 2 1;at 0 1 1;", 2, 15);
        Due.fault(x, "order 3 5;at 5 4 1 2 1 2 1;", 2, 13);
        Due.fault(x, "order 3 5;at 4 5 1 2 1 2 1;", 2, 15);
    }

    private static void rowDigits() {
        Due.sentence("Term 2", "digits below p");
        NeedNotJoin x = new NeedNotJoin();
        for (int p : new int[] {2, 3, 5}) {
            String start = "order " + p + " 2;at 1 0 ";
            Due.is("p less 1", Due.text(x, 0, start + (p - 1) + " " + (p - 1) + ";"), p * p);
            Due.is("the digit", x.cube(0, 1, 0, 1), p - 1);
            Due.fault(x, start + p + " 0;", 2, 17);
            Due.fault(x, start + "0 " + p + ";", 2, 19);
        }
    }

    private static void rowLength() {
        Due.sentence("Term 2", "at I J and n digits");
        NeedNotJoin x = new NeedNotJoin();
        Due.fault(x, "order 2 2;at 0 0;", 1, 16);
        Due.fault(x, "order 2 2;at 0 0 1;", 1, 18);
        Due.is("two", Due.text(x, 0, "order 2 2;at 0 0 1 1;"), 4);
        Due.fault(x, "order 2 2;at 0 0 1 1 1;", 1, 21);
        Due.fault(x, "order 2 1;at 0 0 1 1;", 1, 19);
    }

    private static void turnsZeroToFive() {
        Due.sentence("Term 2", "turn W (0 .. 5)");
        NeedNotJoin x = new NeedNotJoin();
        for (int w = 0; w < 6; w++) {
            Due.is("turn " + w, Due.text(x, 0, "order 2 2;turn " + w + ";"), 4);
        }
        Due.fault(x, "order 2 2;turn 6;", 2, 15);
        Due.fault(x, "order 2 2;turn 9999;", 2, 15);
    }

    /** One digit of a cube at (0, 1, 2): c'(i, j, k) has it where the turned place is (0, 1, 2). */
    private static void turnedPlaces() {
        Due.sentence("Term 2", "0 c(i, j, k), 1 c(j, i, k), 2 c(k, j, i), 3 c(i, k, j), 4 c(k, i, j), 5 c(j, k, i)");
        int[][] due = {{0, 1, 2}, {1, 0, 2}, {2, 1, 0}, {0, 2, 1}, {1, 2, 0}, {2, 0, 1}};
        for (int w = 0; w < 6; w++) {
            NeedNotJoin x = Due.told("order 2 3;at 0 1 0 0 1;turn " + w + ";");
            for (int at = 0; at < 27; at++) {
                boolean here = at == due[w][0] * 9 + due[w][1] * 3 + due[w][2];
                Due.is("turn " + w + " at " + at, x.cube(0, at / 9, at / 3 % 3, at % 3), here ? 1 : 0);
            }
        }
    }

    private static void letters() {
        Due.sentence("Term 2", "letters as many as stand together are KEYWORDS (order, field, twist, at, turn) or none");
        NeedNotJoin x = new NeedNotJoin();
        Due.is("no blank before a number", Due.text(x, 0, "order2 2;field1 1;twist1 1 1;at0 0 1 1;turn5;"), 4);
        Due.fault(x, "orderr 2 2;", 1, 0);
        Due.fault(x, "orde 2 2;", 1, 0);
        Due.fault(x, "order 2 2;a 0 0 1 1;", 1, 10);
        Due.fault(x, "order 2 2;att 0 0 1 1;", 1, 10);
        Due.fault(x, "order 2 2;tur 0;", 1, 10);
        Due.fault(x, "order 2 2;turns 0;", 1, 10);
        Due.fault(x, "order 2 2;fields 1 1;", 1, 10);
        Due.fault(x, "order 2 2;turnfield 1 1;", 1, 10);
        Due.fault(x, "order 2 2;field 1 1;twists 0 0 0;", 1, 20);
        Due.fault(x, "order 2 2;turn 0;z", 1, 17);
        Due.fault(x, "or der 2 2;", 1, 0);
        for (String none : new String[] {"xrder", "ordez", "orderz", "ordera", "aorder", "zorder", "Order", "orderA", "orderZ"}) {
            Due.fault(x, none + " 2 2;", 1, 0);
        }
        for (String none : new String[] {"yield 1 1", "fielz 1 1", "bt 0 0 1 1", "au 0 0 1 1", "burn 0", "turm 0"}) {
            Due.fault(x, "order 2 2;" + none + ";", 1, 10);
        }
        Due.fault(x, "order 2 2;field 1 1;swist 0 0 0;", 1, 20);
    }

    private static void numbers() {
        Due.sentence("Term 2", "digits as many as stand together NUMBERS of 1 to 4 digits or none");
        NeedNotJoin x = new NeedNotJoin();
        Due.is("one digit", Due.text(x, 0, "order 2 1;"), 2);
        Due.is("four digits", Due.text(x, 0, "order 0003 0005;"), 243);
        Due.fault(x, "order 00003 5;", 1, 6);
        Due.fault(x, "order 3 00005;", 1, 8);
        Due.fault(x, "order 99999 5;", 1, 6);
        Due.fault(x, "order 3 4294967297;", 1, 8);
        Due.fault(x, "order 9999 5;", 2, 6);
        Due.fault(x, "order 33;", 2, 6);
        Due.fault(x, "order 2 2;turn 00000;", 1, 15);
        Due.is("no blank behind a stop", Due.text(x, 0, "order 3 1;turn 1;"), 3);
    }

    private static void blanks() {
        Due.sentence("Term 2", "Blanks (32, 10) between");
        NeedNotJoin x = new NeedNotJoin();
        Due.is("both, everywhere", Due.text(x, 0, "\n \norder\n3 \n2\n;\nturn \n 1 ; \n"), 9);
        for (int sign : new int[] {0, 9, 11, 12, 13, 31, 33, 44, 46, 127, 128, 138, 160, 255}) {
            Due.fault(x, "order" + (char) sign + "2 2;", 1, 5);
            Due.fault(x, "order 2 2;" + (char) sign, 1, 10);
            Due.fault(x, (char) sign + "order 2 2;", 1, 0);
        }
    }

    private static void firstByPlace() {
        Due.sentence("Term 2", "FAULTS, the first by its place");
        NeedNotJoin x = new NeedNotJoin();
        Due.fault(x, "order 4 9;#", 2, 6);
        Due.fault(x, "order 5 4;order", 2, 8);
        Due.fault(x, "#order 4 9;", 1, 0);
        Due.fault(x, "order 2 2;at 2 2 2 2", 2, 13);
        Due.fault(x, "order 2 2;at 0 # 2 2", 1, 15);
        Due.fault(x, FORTY + "turn 6;", 3, 283);
        Due.fault(x, "order 2 2;turn 6;" + FORTY.substring(10) + "turn 0;", 2, 15);
    }

    private static void leastAtOnePlace() {
        Due.sentence("Term 2", "at one place the least");
        NeedNotJoin x = new NeedNotJoin();
        Due.fault(x, FORTY + "order 2 2;", 1, 283);
        Due.fault(x, FORTY + "twist 0 0 0;", 1, 283);
        Due.fault(x, FORTY + "turns 0;", 1, 283);
        Due.fault(x, FORTY + ";", 1, 283);
        Due.fault(x, FORTY + "9999", 1, 283);
        Due.fault(x, "order 2 2 9;", 1, 10);
        Due.fault(x, "order 2 2;field 1 1 2;", 1, 20);
        Due.fault(x, "order 2 2;turn 88888;", 1, 15);
    }

    /** Behind each start, all tokens but those that can stand there. */
    private static void whatCannotStand() {
        Due.sentence("Term 2", "1 what can't stand there");
        String field = "order 3 2;field 2 1;";
        notAt("", "order");
        notAt("order ", "1");
        notAt("order 2 ", "1");
        notAt("order 2 1 ", ";");
        notAt("order 2 1;", "field at turn");
        notAt("order 3 2;field ", "1");
        notAt("order 3 2;field 2 ", "1");
        notAt("order 3 2;field 2 1 ", ";");
        notAt(field, "field twist at turn");
        notAt(field + "twist ", "1");
        notAt(field + "twist 8 ", "1");
        notAt(field + "twist 8 4 ", "1");
        notAt(field + "twist 8 4 4 ", ";");
        notAt(field + "at ", "1");
        notAt(field + "at 1 ", "1");
        notAt(field + "at 1 1 ", "1");
        notAt(field + "at 1 1 2 ", "1");
        notAt(field + "at 1 1 2 2 ", ";");
        notAt(field + "turn ", "1");
        notAt(field + "turn 5 ", ";");
    }

    private static void notAt(String start, String allowed) {
        NeedNotJoin x = new NeedNotJoin();
        String tokens = "order field twist at turn none 1 11111 ; # . - \u00e9";
        for (String token : tokens.split(" ")) {
            if (!(" " + allowed + " ").contains(" " + token + " ")) {
                Due.fault(x, start + token, 1, start.length());
            }
        }
    }

    private static void theEnd() {
        Due.sentence("Term 2", "the end: the text's length");
        NeedNotJoin x = new NeedNotJoin();
        String[] texts = {"order", "order ", "order 2", "order 2\n", "order 3 2", "order 3 2;field", "order 3 2;field 2",
            "order 3 2;field 2 1", "order 3 2;field 2 1;twist", "order 3 2;field 2 1;twist 8 4 4  ",
            "order 3 2;at 1", "order 3 2;at 1 1 1", "order 3 2;at 1 1 1 1", "order 3 2;turn", "order 3 2;turn 5 \n "};
        for (String text : texts) {
            Due.fault(x, text, 1, text.length());
        }
        String longest = " ".repeat(600 - 5) + "order";
        Due.fault(x, longest, 1, 600);
    }

    private static void orderFaultPlaces() {
        Due.sentence("Term 2", "order that is not first, or not just once; twist ahead of any field: at its KEYWORD");
        NeedNotJoin x = new NeedNotJoin();
        Due.fault(x, " order 2 2; order 9 9;", 1, 12);
        Due.fault(x, "order 2 2;field 1 1;order", 1, 20);
        Due.fault(x, "turn 0;order 2 2;", 1, 0);
    }

    private static void twistFaultPlaces() {
        Due.sentence("Term 2", "twist ahead of any field: at its KEYWORD");
        NeedNotJoin x = new NeedNotJoin();
        Due.fault(x, "order 2 2; twist 9 9 9;", 1, 11);
        Due.fault(x, "order 2 2;turn 0;\n\ntwist", 1, 19);
    }

    private static void beyondBounds() {
        Due.sentence("Term 2", "2 (at the NUMBER) one beyond its bounds");
        NeedNotJoin x = new NeedNotJoin();
        String[][] texts = {{"order ", "1 1;"}, {"order ", "4 1;"}, {"order ", "6 1;"}, {"order 2 ", "0;"},
            {"order 2 ", "6;"}, {"order 5 ", "4;"}, {"order 3 2;field ", "3 0;"}, {"order 3 2;field 0 ", "3;"},
            {"order 3 2;field 2 1;twist ", "9 0 0;"}, {"order 3 2;field 2 1;twist 0 ", "5 0;"},
            {"order 3 2;field 2 1;twist 0 0 ", "5;"}, {"order 3 2;at ", "2 0 0 0;"}, {"order 3 2;at 0 ", "2 0 0;"},
            {"order 3 2;at 0 0 ", "3 0;"}, {"order 3 2;at 0 0 0 ", "3;"}, {"order 3 2;turn ", "6;"}};
        for (String[] text : texts) {
            Due.fault(x, text[0] + text[1], 2, text[0].length());
        }
    }

    private static void orderAbove243() {
        Due.sentence("Term 2", "an order above 243 at its second one");
        NeedNotJoin x = new NeedNotJoin();
        Due.is("243 itself", Due.text(x, 0, "order 3 5;"), 243);
        Due.fault(x, "order 5 4;", 2, 8);
        Due.fault(x, "order 5\n 5;", 2, 9);
        Due.fault(x, "order 5 9999", 2, 8);
    }

    private static void statement41() {
        Due.sentence("Term 2", "3 (at its KEYWORD) the 41st STATEMENT");
        NeedNotJoin x = new NeedNotJoin();
        Due.is("the 40th", Due.text(x, 0, FORTY), 4);
        Due.is("the 40th and blanks", Due.text(x, 0, FORTY + " \n"), 4);
        Due.fault(x, FORTY + "turn 1;", 3, 283);
        Due.fault(x, FORTY + "\nfield 9 9;", 3, 284);
        Due.fault(x, FORTY + "at", 3, 283);
        Due.fault(x, FORTY + "turn 1;turn 1;#", 3, 283);
        String fieldFirst = "order 2 2;field 1 1;" + FORTY.substring(17);
        Due.fault(x, fieldFirst + "twist 0 0 0;", 3, fieldFirst.length());
        Due.is("forty of the shortest", Due.text(x, 0, FORTY.substring(0, 276) + "turn1;"), 4);
    }

    private static void actsOnAWorld() {
        Due.sentence("Term 2", "TOLD so, or by hand (a DIGIT), turned, copied, made UNITAL: these are ACTS on a WORLD");
        NeedNotJoin x = new NeedNotJoin();
        Due.text(x, 0, "order 2 2;field 1 1;");
        Due.is("told", x.look(0), 1);
        Due.text(x, 0, "order 2 2;field 1 2;");
        Due.is("not told", x.look(0), 1);
        x.digit(1, 0, 0, 0, 0);
        Due.is("by hand, the same digit", x.look(0), 2);
        x.digit(1, 0, 0, 0, 2);
        Due.is("not by hand", x.look(0), 2);
        x.turn(0, 0, 0);
        Due.is("turned onto itself", x.look(0), 3);
        x.turn(0, 2, 0);
        Due.is("copied", x.look(0), 4);
        x.turn(0, 2, 6);
        Due.is("not turned", x.look(0), 4);
        x.unital(0, 3, 1);
        Due.is("made unital", x.look(0), 5);
        x.unital(0, 3, 0);
        Due.is("not made unital", x.look(0), 5);
        x.take(2, 2, 0, 4);
        Due.is("taken", x.look(0), 6);
        x.take(2, 2, 1, 4);
        Due.is("not taken", x.look(0), 6);
        x.map(0, 0, 1);
        x.image(true);
        x.feed(0, 0, 0, 0, 0);
        x.end(0);
        Due.is("a map, an image, a tape are none", x.look(0), 6);
    }

    private static void last20Acts() {
        Due.sentence("Term 2", "the last 20 ACTS can be undone");
        for (int acts : new int[] {0, 1, 19, 20, 21, 22, 40, 41, 150}) {
            NeedNotJoin x = new NeedNotJoin();
            for (int act = 1; act <= acts; act++) {
                x.digit(0, 0, 0, 0, act % 2);
            }
            int can = Math.min(20, acts);
            Due.is("of " + acts + " acts", x.look(0), can);
            for (int back = 1; back <= can; back++) {
                Due.is("undone", x.undo(true), 0);
                Due.is("as before it", x.cube(0, 0, 0, 0), (acts - back) % 2);
            }
            Due.is("no more of " + acts, x.undo(true), NO);
            Due.is("the first ones stay done", x.cube(0, 0, 0, 0), (acts - can) % 2);
        }
        NeedNotJoin y = new NeedNotJoin();
        for (int act = 1; act <= 21; act++) {
            y.digit(0, 0, 0, 0, act % 2);
        }
        y.undo(true);
        Due.is("the 21st has pushed out the first for good", y.look(0), 19);
    }

    private static void redoneTillAnotherAct() {
        Due.sentence("Term 2", "and redone till another ACT is done");
        for (int kind = 0; kind < 10; kind++) {
            NeedNotJoin x = Due.told("order 2 2;field 1 1;");
            x.digit(1, 0, 0, 0, 1);
            x.digit(1, 0, 0, 0, 0);
            x.undo(true);
            x.undo(true);
            boolean isAct = act(x, kind);
            Due.is("redone behind kind " + kind, x.look(1), isAct ? 0 : 2);
            Due.is("redone behind kind " + kind, x.undo(false), isAct ? NO : 1);
            Due.is("the digit behind kind " + kind, x.cube(1, 0, 0, 0), isAct ? 0 : 1);
        }
    }

    /** Some kinds of calls, five that are acts ahead of five that are none: whether this one is. */
    private static boolean act(NeedNotJoin x, int kind) {
        switch (kind) {
            case 0: Due.text(x, 2, ""); break;
            case 1: x.digit(2, 0, 0, 0, 0); break;
            case 2: x.turn(0, 2, 0); break;
            case 3: x.unital(0, 2, 1); break;
            case 4: x.take(2, 2, 0, 2); break;
            case 5: Due.text(x, 2, ";"); break;
            case 6: x.digit(2, 0, 0, 0, 2); break;
            case 7: x.unital(1, 2, 1); break;
            case 8: x.map(0, 0, 0); break;
            default: x.image(true); break;
        }
        return kind < 5;
    }
}
