import java.util.Random;

/** Runs of 512 calls with any arguments, the least and the greatest int too: none throws, all end, all repeat. */
public final class AnyArgumentsTest {
    private static final int[] ODD = {Integer.MIN_VALUE, Integer.MIN_VALUE + 1, -2, -1, 0, 1, 2, 3, 4, 5, 6, 9, 10,
        15, 16, 24, 25, 26, 27, 80, 81, 124, 125, 242, 243, 244, 599, 600, 601, 650, 15750, 59048, 59049, 59292,
        59293, 65536, Integer.MAX_VALUE - 1, Integer.MAX_VALUE};
    private static final String[] TEXTS = {"order 3 5; field 2 1 0 0 0;", "order 2 2; field 1 1;", "order 5 3;",
        "order 3 5; field 1 2 0 0 0; twist 3 1 2; turn 4;", "order 2 4; field 1 1 0 0; twist 2 1 3;",
        "order 3 3; field 2 1 0; twist 5 1 1;", "order 5 3; field 2 3 0;", "order 2 5; field 1 0 1 0 0; turn 2;",
        "order 3 4; at 0 0 1 2 1 0; at 3 3 2 2 2 2;", "order 5 2; field 2 0;", "order 2 3; field 1 1 0;", "order 9"};

    private AnyArgumentsTest() {
    }

    public static void main(String[] args) {
        for (int seed = 0; seed < 150; seed++) {
            long first = run(seed);
            if (seed % 10 == 0) {
                Due.is("run " + seed + " again", run(seed), first);
            }
        }
        Due.end();
    }

    private static long run(int seed) {
        Random random = new Random(seed);
        NeedNotJoin x = new NeedNotJoin();
        long sum = 0;
        for (int call = 0; call < 512; call++) {
            int which = random.nextInt(27);
            long answer = 0;
            try {
                answer = which == 26 ? tell(x, random) : call(x, which, random);
            } catch (Throwable thrown) {
                Due.is("run " + seed + " call " + call + " of kind " + which + " threw " + thrown, 1, 0);
            }
            sum = sum * 31 + answer;
        }
        return sum;
    }

    private static long tell(NeedNotJoin x, Random random) {
        Due.feed(x, TEXTS[random.nextInt(TEXTS.length)]);
        return x.text(random.nextInt(6));
    }

    private static int any(Random random, int usual) {
        return random.nextInt(4) == 0 ? ODD[random.nextInt(ODD.length)]
            : random.nextInt(30) == 0 ? random.nextInt() : random.nextInt(usual);
    }

    private static long call(NeedNotJoin x, int which, Random random) {
        int w = any(random, 6);
        int v = any(random, 6);
        int a = any(random, 60);
        int b = any(random, 60);
        int c = any(random, 60);
        int d = any(random, 60);
        boolean is = random.nextBoolean();
        switch (which) {
            case 0: return x.feed(random.nextInt(), a, b, c, d);
            case 1: return x.end(a) ? 1 : 0;
            case 2: return x.text(w);
            case 3: return x.fault(w);
            case 4: return x.digit(w, any(random, 5), any(random, 5), any(random, 5), any(random, 5)) ? 1 : 0;
            case 5: return x.cube(w, any(random, 5), any(random, 5), any(random, 5));
            case 6: return x.of(w, any(random, 18));
            case 7: return x.product(w, a, b);
            case 8: return x.quotient(w, a, b, is);
            case 9: return x.ranks(w, any(random, 3), any(random, 6));
            case 10: return x.powers(w, a);
            case 11: return x.span(w, a, b);
            case 12: return x.fano(w, a, b, c, d);
            case 13: return x.parted(w, v);
            case 14: return x.turn(w, v, any(random, 6)) ? 1 : 0;
            case 15: return x.unital(w, v, a);
            case 16: return x.undo(is);
            case 17: return x.map(any(random, 3), any(random, 5), any(random, 27)) ? 1 : 0;
            case 18: return x.carry(w, v);
            case 19: return x.same(w, v);
            case 20: return x.isotopes(w, v);
            case 21: return x.plane(w, a, b, any(random, 3));
            case 22: return x.list(any(random, 6), any(random, 4), any(random, 3));
            case 23: return x.take(any(random, 6), any(random, 4), any(random, 10), w) ? 1 : 0;
            case 24: return x.image(is) ? 1 : 0;
            default: return x.look(any(random, 26));
        }
    }
}
