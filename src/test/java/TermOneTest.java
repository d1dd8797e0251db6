/** Term 1, worlds and their products: a test for each sentence that names a case at a bound. */
public final class TermOneTest {
    private static final int NO = NeedNotJoin.NONE;
    private static final int[] ODD = {Integer.MIN_VALUE, -1, Integer.MAX_VALUE};

    private TermOneTest() {
    }

    public static void main(String[] args) {
        atMost512Calls();
        none();
        worldsZeroToFive();
        primes();
        sizes();
        greatestOrder();
        atFirst();
        elements();
        placeNoughtLowest();
        baseElements();
        sumsWrap();
        cubePlaces();
        cubeDigits();
        productsWrap();
        productsOfNought();
        Due.end();
    }

    private static void atMost512Calls() {
        Due.sentence("What it is", "used for at most 512 calls after it has been made");
        NeedNotJoin x = new NeedNotJoin();
        for (int call = 1; call <= 510; call++) {
            Due.is("call " + call, x.digit(call % 6, 0, 0, 0, call / 6 % 2), true);
        }
        Due.is("call 511", x.look(0), 20);
        Due.is("call 512", x.undo(true), 0);
    }

    private static void none() {
        Due.sentence("The constants", "NONE = -1");
        Due.is("NONE", NeedNotJoin.NONE, -1);
    }

    private static void worldsZeroToFive() {
        Due.sentence("Term 1", "WORLDS 0 .. 5");
        NeedNotJoin x = new NeedNotJoin();
        Due.is("the first", x.of(0, 2), 2);
        Due.is("the last", x.of(5, 2), 2);
        Due.is("one behind it", x.of(6, 2), NO - 1);
        for (int w : ODD) {
            Due.is("world " + w, x.of(w, 2), NO - 1);
        }
    }

    private static void primes() {
        Due.sentence("Term 1", "a PRIME p (2, 3, 5)");
        NeedNotJoin x = new NeedNotJoin();
        for (int p = 0; p < 12; p++) {
            boolean is = p == 2 || p == 3 || p == 5;
            Due.is("order of prime " + p, Due.text(x, 0, "order " + p + " 1;"), is ? p : NO);
            Due.is("fault of prime " + p, x.fault(0), is ? 0 : 2);
        }
    }

    private static void sizes() {
        Due.sentence("Term 1", "a SIZE n (1 .. 5)");
        NeedNotJoin x = new NeedNotJoin();
        Due.is("size 0", Due.text(x, 0, "order 2 0;"), NO);
        Due.is("size 1", Due.text(x, 0, "order 2 1;"), 2);
        Due.is("size 5", Due.text(x, 0, "order 2 5;"), 32);
        Due.is("size 6", Due.text(x, 0, "order 2 6;"), NO);
        Due.is("it stays 5", x.of(0, 1), 5);
    }

    private static void greatestOrder() {
        Due.sentence("Term 1", "an ORDER p to the n, 243 at most");
        NeedNotJoin x = new NeedNotJoin();
        Due.is("3 to the 5", Due.text(x, 0, "order 3 5;"), 243);
        Due.is("its order", x.of(0, 2), 243);
        Due.is("5 to the 3", Due.text(x, 1, "order 5 3;"), 125);
        Due.is("5 to the 4", Due.text(x, 1, "order 5 4;"), NO);
        Due.is("5 to the 5", Due.text(x, 1, "order 5 5;"), NO);
        Due.is("it stays", x.of(1, 2), 125);
    }

    private static void atFirst() {
        Due.sentence("Term 1", "at first p 2, n 1 and a CUBE of noughts");
        NeedNotJoin x = new NeedNotJoin();
        for (int w = 0; w < 6; w++) {
            Due.is("p", x.of(w, 0), 2);
            Due.is("n", x.of(w, 1), 1);
            Due.is("the cube", x.cube(w, 0, 0, 0), 0);
            Due.is("1 1", x.product(w, 1, 1), 0);
        }
    }

    private static void elements() {
        Due.sentence("Term 1", "ELEMENTS are 0 .. ORDER less 1");
        for (String order : new String[] {"2 1", "2 5", "3 5", "5 3", "5 1"}) {
            NeedNotJoin x = Due.told("order " + order + ";");
            int last = x.of(0, 2) - 1;
            Due.is("the last one by the last one", x.product(0, last, last), 0);
            Due.is("nought by nought", x.product(0, 0, 0), 0);
            Due.is("one behind the last", x.product(0, last + 1, 0), NO);
            Due.is("one behind the last", x.product(0, 0, last + 1), NO);
            for (int bad : ODD) {
                Due.is("element " + bad, x.product(0, bad, 0), NO);
                Due.is("element " + bad, x.product(0, 0, bad), NO);
            }
        }
    }

    private static void placeNoughtLowest() {
        Due.sentence("Term 1", "place 0 lowest");
        NeedNotJoin x = Due.told("order 5 3;at 0 0 4 0 0;at 0 1 0 0 4;");
        Due.is("a digit at place 0", x.product(0, 1, 1), 4);
        Due.is("a digit at the highest place", x.product(0, 1, 5), 100);
    }

    private static void baseElements() {
        Due.sentence("Term 1", "the i-th BASE ELEMENT is p to the i");
        NeedNotJoin x = Due.told("order 5 3;at 0 2 1 2 3;at 2 0 3 2 1;at 2 2 4 4 4;");
        Due.is("the least by the greatest", x.product(0, 1, 25), 1 + 10 + 75);
        Due.is("the greatest by the least", x.product(0, 25, 1), 3 + 10 + 25);
        Due.is("the greatest by itself", x.product(0, 25, 25), 124);
        Due.is("one below the greatest: digits 4, 4 and 0", x.product(0, 1, 24), 0);
    }

    private static void sumsWrap() {
        Due.sentence("Term 1", "Sums go digit by digit modulo p");
        NeedNotJoin x = Due.told("order 5 2;at 0 0 4 4;at 0 1 4 0;");
        Due.is("4 and 4 are 3, nothing carried", x.product(0, 1, 1 + 5), 3 + 5 * 4);
        NeedNotJoin y = Due.told("order 2 2;at 0 0 1 1;at 0 1 1 0;");
        Due.is("1 and 1 are 0, nothing carried", y.product(0, 1, 3), 2);
        NeedNotJoin z = Due.told("order 3 5;at 0 0 2 2 2 2 2;at 0 1 1 1 1 1 1;");
        Due.is("all digits to 0", z.product(0, 1, 4), 0);
    }

    private static void cubePlaces() {
        Due.sentence("Term 1", "A CUBE has for i, j, k (0 .. n - 1 each)");
        NeedNotJoin x = Due.told("order 2 3;at 0 0 1 0 0;at 2 2 0 0 1;");
        Due.is("the first", x.cube(0, 0, 0, 0), 1);
        Due.is("the last", x.cube(0, 2, 2, 2), 1);
        for (int bad : new int[] {Integer.MIN_VALUE, -1, 3, 4, 5, Integer.MAX_VALUE}) {
            Due.is("i " + bad, x.cube(0, bad, 0, 0), NO);
            Due.is("j " + bad, x.cube(0, 0, bad, 0), NO);
            Due.is("k " + bad, x.cube(0, 0, 0, bad), NO);
        }
        Due.is("size 1", x.cube(1, 0, 0, 0), 0);
        Due.is("size 1, k 1", x.cube(1, 0, 0, 1), NO);
    }

    private static void cubeDigits() {
        Due.sentence("Term 1", "a DIGIT c(i, j, k) of 0 .. p - 1");
        for (int p : new int[] {2, 3, 5}) {
            NeedNotJoin x = Due.told("order " + p + " 2;");
            Due.is("the greatest", x.digit(0, 1, 1, 1, p - 1), true);
            Due.is("one more", x.digit(0, 1, 1, 1, p), false);
            Due.is("one less than 0", x.digit(0, 1, 1, 1, -1), false);
            Due.is("the greatest stays", x.cube(0, 1, 1, 1), p - 1);
            Due.is("the least", x.digit(0, 1, 1, 1, 0), true);
            Due.is("the least is there", x.cube(0, 1, 1, 1), 0);
        }
    }

    /** The greatest digits everywhere: each digit of the product is n n (p - 1)(p - 1)(p - 1). */
    private static void productsWrap() {
        Due.sentence("Term 1", "its digit k is the sum over i, j of c(i, j, k), digit i of x, digit j of y, modulo p");
        int[][] shapes = {{2, 1}, {2, 2}, {2, 3}, {2, 4}, {2, 5}, {3, 1}, {3, 3}, {3, 5}, {5, 1}, {5, 2}, {5, 3}};
        for (int[] shape : shapes) {
            int p = shape[0];
            int n = shape[1];
            NeedNotJoin x = Due.told(full(p, n));
            int last = x.of(0, 2) - 1;
            int each = n * n * (p - 1) * (p - 1) * (p - 1) % p;
            Due.is("the greatest of " + p + " " + n, x.product(0, last, last), each * last / (p - 1));
        }
    }

    private static String full(int p, int n) {
        StringBuilder text = new StringBuilder("order " + p + " " + n + ";");
        for (int i = 0; i < n; i++) {
            for (int j = 0; j < n; j++) {
                text.append("at ").append(i).append(' ').append(j).append((" " + (p - 1)).repeat(n)).append(';');
            }
        }
        return text.toString();
    }

    private static void productsOfNought() {
        Due.sentence("Term 1", "PRODUCT x y");
        NeedNotJoin x = Due.told(full(5, 3));
        for (int y : new int[] {0, 1, 124}) {
            Due.is("nought by " + y, x.product(0, 0, y), 0);
            Due.is(y + " by nought", x.product(0, y, 0), 0);
        }
    }
}
