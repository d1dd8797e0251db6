import java.util.Arrays;
import java.util.Random;

/** Worlds of many kinds: what the class answers is what trying all elements tells. */
public final class BruteTest {
    private static final int NO = NeedNotJoin.NONE;
    private static final Random RANDOM = new Random(7);

    /** It divides, with the unit 1, and neither commutes nor joins. */
    private static final String NO_FIELD = "order 2 4;at 0 0 1 0 0 0;at 0 1 0 1 0 0;at 0 2 0 0 1 0;at 0 3 0 0 0 1;"
        + "at 1 0 0 1 0 0;at 1 1 1 0 1 1;at 1 2 1 0 0 1;at 1 3 1 1 0 0;at 2 0 0 0 1 0;at 2 1 0 1 1 1;at 2 2 0 1 0 0;"
        + "at 2 3 1 0 0 1;at 3 0 0 0 0 1;at 3 1 0 1 0 1;at 3 2 1 0 0 0;at 3 3 1 1 1 1;";

    private BruteTest() {
    }

    public static void main(String[] args) {
        int[][] shapes = {{2, 1}, {2, 2}, {2, 3}, {3, 1}, {3, 2}, {5, 1}, {5, 2}, {2, 4}, {3, 3}, {2, 5}};
        for (int[] shape : shapes) {
            int many = shape[1] < 3 ? 60 : 25;
            for (int i = 0; i < many; i++) {
                NeedNotJoin x = new NeedNotJoin();
                Brute a = tell(x, 0, shape[0], shape[1], i);
                Brute b = tell(x, 1, shape[0], shape[1], i + 1);
                questions(x, 0, a);
                elements(x, 0, a);
                pairs(x, a, b);
                plane(x, 0, a);
                unital(x, a);
            }
        }
        special();
        allOfFour();
        parts();
        tripleLists();
        lists();
        Due.end();
    }

    /** Worlds that divide: fields, twists that do not join, and these turned and made unital. */
    private static void special() {
        String[][] texts = {{"order 2 4; field 1 1 0 0;", "; twist 2 2 2;", "; twist 4 2 0;", "; twist 2 2 2; turn 5;"},
            {"order 3 3; field 2 1 0;", "; twist 2 1 1;", "; twist 2 1 2;", "; twist 5 2 2; turn 4;"},
            {"order 3 2; field 1 1;", "; twist 3 1 1;", "; twist 3 1 0;", "; twist 7 1 1; turn 2;"},
            {"order 5 2; field 2 2;", "; twist 5 1 1;", "; twist 6 1 0;", "; twist 8 1 1; turn 3;"},
            {"order 2 3; field 1 1 0;", "; turn 2;", "; turn 4;", "; turn 5;"},
            {NO_FIELD, "; turn 1;", "; turn 2;", "; turn 5;"}};
        for (String[] of : texts) {
            for (int i = 0; i < of.length; i++) {
                for (int j = 0; j < of.length; j++) {
                    NeedNotJoin x = new NeedNotJoin();
                    Due.text(x, 0, i == 0 ? of[0] : of[0] + of[i].substring(1));
                    Due.text(x, 1, j == 0 ? of[0] : of[0] + of[j].substring(1));
                    Brute a = read(x, 0);
                    pairs(x, a, read(x, 1));
                    if (j == 0) {
                        questions(x, 0, a);
                        elements(x, 0, a);
                        plane(x, 0, a);
                    }
                    unital(x, a);
                }
            }
        }
    }

    /** World w by a text: noise, sparse noise, polynomials, twists, with turns. */
    private static Brute tell(NeedNotJoin x, int w, int p, int n, int kind) {
        StringBuilder text = new StringBuilder("order " + p + " " + n + ";");
        int order = (int) Math.round(Math.pow(p, n));
        if (kind % 4 == 0) {
            noise(text, p, n, 1);
        } else if (kind % 4 == 1) {
            noise(text, p, n, 4);
        } else {
            text.append("field");
            for (int i = 0; i < n; i++) {
                text.append(' ').append(RANDOM.nextInt(p));
            }
            text.append(';');
            if (kind % 4 == 3) {
                text.append("twist ").append(RANDOM.nextInt(order)).append(' ').append(RANDOM.nextInt(5));
                text.append(' ').append(RANDOM.nextInt(5)).append(';');
            }
            if (kind % 8 > 3) {
                text.append("turn ").append(RANDOM.nextInt(6)).append(';');
            }
        }
        Due.is("told " + text, Due.text(x, w, text.toString()), order);
        return read(x, w);
    }

    private static void noise(StringBuilder text, int p, int n, int rarity) {
        for (int i = 0; i < n; i++) {
            for (int j = 0; j < n; j++) {
                text.append("at ").append(i).append(' ').append(j);
                for (int k = 0; k < n; k++) {
                    text.append(' ').append(RANDOM.nextInt(rarity) == 0 ? RANDOM.nextInt(p) : 0);
                }
                text.append(';');
            }
        }
    }

    private static Brute read(NeedNotJoin x, int w) {
        int n = x.of(w, 1);
        int[][][] cube = new int[n][n][n];
        for (int i = 0; i < n; i++) {
            for (int j = 0; j < n; j++) {
                for (int k = 0; k < n; k++) {
                    cube[i][j][k] = x.cube(w, i, j, k);
                }
            }
        }
        return new Brute(x.of(w, 0), n, cube);
    }

    private static void questions(NeedNotJoin x, int w, Brute a) {
        Due.is("divides", x.of(w, 3), a.failing() == NO ? 1 : 0);
        Due.is("failing", x.of(w, 4), a.failing());
        Due.is("unit", x.of(w, 5), a.unit());
        Due.is("commutes", x.of(w, 6), a.commutes());
        Due.is("joins", x.of(w, 7), a.joins());
        Due.is("unjoined", x.of(w, 8), a.unjoined());
        Due.is("left nucleus", x.of(w, 9), a.nucleus(0));
        Due.is("middle nucleus", x.of(w, 10), a.nucleus(1));
        Due.is("right nucleus", x.of(w, 11), a.nucleus(2));
        Due.is("centre", x.of(w, 12), a.centre());
        Due.is("idempotent", x.of(w, 13), a.idempotents());
        Due.is("planar", x.of(w, 14), a.planar());
        Due.is("squares", x.of(w, 15), a.squares());
        if (a.maps() <= 1000) {
            Due.is("derivations", x.of(w, 16), a.derivations());
        }
        if (a.maps() <= 20) {
            Due.is("triples", x.of(w, 17), a.triples());
        }
        Due.is("triples by rank", x.of(w, 17), a.triplesByRank());
        for (int side = 0; side < 3; side++) {
            int[] counts = a.ranks(side);
            for (int r = 0; r <= a.n; r++) {
                Due.is("ranks", x.ranks(w, side, r), counts[r]);
            }
        }
    }

    private static void elements(NeedNotJoin x, int w, Brute a) {
        for (int i = 0; i < 12; i++) {
            int u = RANDOM.nextInt(a.q);
            int v = RANDOM.nextInt(a.q);
            Due.is("product", x.product(w, u, v), a.m[u][v]);
            Due.is("left quotient", x.quotient(w, u, v, true), a.quotient(u, v, true));
            Due.is("right quotient", x.quotient(w, u, v, false), a.quotient(u, v, false));
            Due.is("powers", x.powers(w, u), a.powers(u));
            Due.is("span", x.span(w, u, v), a.span(u, v));
        }
    }

    private static void pairs(NeedNotJoin x, Brute a, Brute b) {
        Due.is("parted", x.parted(0, 1), a.parted(b));
        if (a.maps() <= 70000) {
            Due.is("same", x.same(0, 1), a.same(b));
            Due.is("same as itself", x.same(0, 0), a.same(a));
        } else if (a.q > 27) {
            Due.is("same", x.same(0, 1), NO);
        }
        isotopes(x, 0, 1, a, b);
        isotopes(x, 0, 0, a, a);
        carry(x, a, b);
    }

    private static void isotopes(NeedNotJoin x, int from, int to, Brute a, Brute b) {
        boolean can = a.q <= 16 && a.failing() == NO && b.failing() == NO && a.unit() == 1;
        Due.is("isotopes", x.isotopes(from, to), can ? a.isotopes(b) : NO);
    }

    private static void carry(NeedNotJoin x, Brute a, Brute b) {
        for (int round = 0; round < 6; round++) {
            int[][] maps = new int[3][];
            int due = NO;
            for (int m = 2; m >= 0; m--) {
                int[] bases = new int[a.n];
                for (int i = 0; i < a.n; i++) {
                    bases[i] = round == 0 ? a.base(i) : RANDOM.nextInt(a.q);
                    x.map(m, i, bases[i]);
                }
                maps[m] = a.linear(bases);
                due = a.isOneToOne(maps[m]) ? due : 100 + m;
            }
            Due.is("carry", x.carry(0, 1), due != NO ? due : a.carries(b, maps[0], maps[1], maps[2]));
        }
    }

    private static void plane(NeedNotJoin x, int w, Brute a) {
        if (a.failing() != NO || a.q > 27) {
            return;
        }
        int places = a.q * a.q + a.q + 1;
        for (int i = 0; i < 40; i++) {
            int u = place(a, places);
            int v = place(a, places);
            Due.is("on", x.plane(w, u, v, 2), a.isOn(u, v) ? 1 : 0);
            Due.is("join", x.plane(w, u, v, 0), u == v ? NO : a.join(u, v));
            Due.is("meet", x.plane(w, u, v, 1), u == v ? NO : a.meet(u, v));
        }
        for (int i = 0; i < 20; i++) {
            int[] four = {place(a, places), place(a, places), place(a, places), place(a, places)};
            Due.is("fano", x.fano(w, four[0], four[1], four[2], four[3]),
                a.fano(four[0], four[1], four[2], four[3]));
        }
    }

    /** Places far out are rare among all; they come as often as the others here. */
    private static int place(Brute a, int places) {
        return RANDOM.nextInt(3) == 0 ? places - 1 - RANDOM.nextInt(a.q + 1) : RANDOM.nextInt(places);
    }

    private static void unital(NeedNotJoin x, Brute a) {
        int e = RANDOM.nextInt(a.q);
        int acts = x.look(0);
        if (e == 0 || a.failing() != NO) {
            Due.is("no unital", x.unital(0, 3, e), NO);
            Due.is("no act", x.look(0), acts);
            return;
        }
        Due.is("unital", x.unital(0, 3, e), a.m[e][e]);
        Brute due = a.unital(e);
        Brute got = read(x, 3);
        Due.is("unital's cube", Arrays.deepEquals(due.c, got.c), true);
        Due.is("unital's unit", x.of(3, 5), a.m[e][e]);
        isotopes(x, 3, 0, got, a);
        isotopes(x, 0, 3, a, got);
        questions(x, 3, got);
    }

    /** All worlds of order 4. */
    private static void allOfFour() {
        for (int code = 0; code < 256; code++) {
            NeedNotJoin x = new NeedNotJoin();
            Due.text(x, 0, "order 2 2;");
            for (int at = 0; at < 8; at++) {
                x.digit(0, at / 4, at / 2 % 2, at % 2, code >> at & 1);
            }
            Brute a = read(x, 0);
            Due.is("triples of code " + code, x.of(0, 17), a.triples());
            questions(x, 0, a);
        }
    }

    /** Sparse worlds of few digits, so that each kind of ranks parts some of them. */
    private static void parts() {
        int[] parted = new int[5];
        for (int pair = 0; pair < 3000; pair++) {
            NeedNotJoin x = new NeedNotJoin();
            Brute[] both = new Brute[2];
            for (int w = 0; w < 2; w++) {
                Due.text(x, w, "order 2 3;");
                for (int i = 0; i < 4; i++) {
                    x.digit(w, RANDOM.nextInt(3), RANDOM.nextInt(3), RANDOM.nextInt(3), 1);
                }
                both[w] = read(x, w);
            }
            int due = both[0].parted(both[1]);
            Due.is("parted", x.parted(0, 1), due);
            parted[due + 1]++;
        }
        System.out.println("parted by nothing, 0, 1, 2, 3: " + Arrays.toString(parted));
        for (int due = 0; due < 4; due++) {
            Due.is("pairs parted by " + (due - 1), parted[due] > 0, true);
        }
    }

    /** Triples of maps of two digits to the base of 3: too many to try them all for many worlds. */
    private static void tripleLists() {
        String[] texts = {"order 3 2;", "order 3 2; field 1 1;", "order 3 2; at 0 0 1 2; at 1 0 0 1;"};
        for (String text : texts) {
            NeedNotJoin x = new NeedNotJoin();
            Due.text(x, 0, text);
            Due.is("triples of " + text, x.of(0, 17), read(x, 0).triples());
        }
    }

    private static void lists() {
        NeedNotJoin x = new NeedNotJoin();
        int[][] kinds = {{2, 2}, {3, 2}, {5, 2}, {2, 3}};
        for (int[] kind : kinds) {
            int p = kind[0];
            int n = kind[1];
            int free = n * (n - 1) * (n - 1);
            int i = 0;
            int commute = 0;
            int join = 0;
            for (int code = 0; code < Math.round(Math.pow(p, free)); code++) {
                Brute a = withUnit(p, n, code, free);
                if (a.failing() != NO) {
                    continue;
                }
                Due.is("unit of the listed", a.unit(), 1);
                Due.is("take", x.take(p, n, i, 2), true);
                Due.is("taken", Arrays.deepEquals(read(x, 2).c, a.c), true);
                i++;
                commute += a.commutes();
                join += a.joins();
            }
            Due.is("list", x.list(p, n, 0), i);
            Due.is("list that commute", x.list(p, n, 1), commute);
            Due.is("list that join", x.list(p, n, 2), join);
        }
    }

    private static Brute withUnit(int p, int n, int code, int free) {
        int[][][] cube = new int[n][n][n];
        int place = free - 1;
        for (int i = 0; i < n; i++) {
            for (int j = 0; j < n; j++) {
                for (int k = 0; k < n; k++) {
                    if (i == 0 || j == 0) {
                        cube[i][j][k] = i + j == k ? 1 : 0;
                    } else {
                        cube[i][j][k] = (int) (code / Math.round(Math.pow(p, place)) % p);
                        place--;
                    }
                }
            }
        }
        return new Brute(p, n, cube);
    }
}
