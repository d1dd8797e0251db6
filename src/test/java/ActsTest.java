import java.util.ArrayList;
import java.util.Arrays;
import java.util.List;
import java.util.Random;

/** Random acts, undone and redone, with maps and images, beside a plain model that copies all of it each time. */
public final class ActsTest {
    private static final int NO = NeedNotJoin.NONE;

    private ActsTest() {
    }

    private static final class Model {
        int[][] worlds = new int[6][];
        List<int[]> past = new ArrayList<>();
        List<int[]> future = new ArrayList<>();
        int[] maps = new int[15];

        Model() {
            for (int w = 0; w < 6; w++) {
                worlds[w] = new int[] {2, 1, 0};
            }
            Arrays.fill(maps, NO);
        }

        Model copy() {
            Model copy = new Model();
            copy.worlds = worlds.clone();
            copy.past = new ArrayList<>(past);
            copy.future = new ArrayList<>(future);
            copy.maps = maps.clone();
            return copy;
        }

        void act(int w, int[] world) {
            past.add(entry(w));
            if (past.size() > 20) {
                past.remove(0);
            }
            future.clear();
            worlds[w] = world;
        }

        private int[] entry(int w) {
            int[] entry = Arrays.copyOf(worlds[w], worlds[w].length + 1);
            entry[entry.length - 1] = w;
            return entry;
        }

        int move(List<int[]> from, List<int[]> to) {
            if (from.isEmpty()) {
                return NO;
            }
            int[] entry = from.remove(from.size() - 1);
            int w = entry[entry.length - 1];
            to.add(entry(w));
            worlds[w] = Arrays.copyOf(entry, entry.length - 1);
            return w;
        }
    }

    public static void main(String[] args) {
        for (int seed = 0; seed < 60; seed++) {
            run(new Random(seed));
        }
        Due.end();
    }

    private static void run(Random random) {
        NeedNotJoin x = new NeedNotJoin();
        Model model = new Model();
        Model kept = null;
        for (int call = 0; call < 120; call++) {
            switch (random.nextInt(9)) {
                case 0: text(x, model, random); break;
                case 1:
                case 2: digit(x, model, random); break;
                case 3: turn(x, model, random); break;
                case 4: Due.is("undo", x.undo(true), model.move(model.past, model.future)); break;
                case 5: Due.is("redo", x.undo(false), model.move(model.future, model.past)); break;
                case 6: map(x, model, random); break;
                case 7: list(x, model, random); break;
                default:
                    if (random.nextInt(3) == 0) {
                        Due.is("image", x.image(true), true);
                        kept = model.copy();
                    } else {
                        Due.is("image", x.image(false), kept != null);
                        model = kept == null ? model : kept.copy();
                    }
                    break;
            }
            compare(x, model);
        }
    }

    private static void text(NeedNotJoin x, Model model, Random random) {
        int w = random.nextInt(8) - 1;
        int[] shape = new int[][] {{2, 1}, {2, 2}, {2, 5}, {3, 3}, {5, 3}, {5, 4}}[random.nextInt(6)];
        int got = Due.text(x, w, "order " + shape[0] + " " + shape[1] + ";");
        int order = (int) Math.round(Math.pow(shape[0], shape[1]));
        boolean can = w >= 0 && w < 6 && order <= 243;
        Due.is("text", got, can ? order : NO);
        if (can) {
            model.act(w, Arrays.copyOf(shape, 2 + shape[1] * shape[1] * shape[1]));
        }
    }

    private static void digit(NeedNotJoin x, Model model, Random random) {
        int w = random.nextInt(6);
        int n = model.worlds[w][1];
        int i = random.nextInt(n);
        int j = random.nextInt(n);
        int k = random.nextInt(n + 1);
        int v = random.nextInt(model.worlds[w][0] + 1);
        boolean can = k < n && v < model.worlds[w][0];
        Due.is("digit", x.digit(w, i, j, k, v), can);
        if (can) {
            int[] world = model.worlds[w].clone();
            world[2 + n * n * i + n * j + k] = v;
            model.act(w, world);
        }
    }

    private static void turn(NeedNotJoin x, Model model, Random random) {
        int a = random.nextInt(7);
        int b = random.nextInt(7);
        Due.is("turn", x.turn(a, b, 1), a < 6 && b < 6);
        if (a == 6 || b == 6) {
            return;
        }
        int n = model.worlds[a][1];
        int[] world = model.worlds[a].clone();
        for (int i = 0; i < n; i++) {
            for (int j = 0; j < n; j++) {
                for (int k = 0; k < n; k++) {
                    world[2 + n * n * i + n * j + k] = model.worlds[a][2 + n * n * j + n * i + k];
                }
            }
        }
        model.act(b, world);
    }

    private static void map(NeedNotJoin x, Model model, Random random) {
        int m = random.nextInt(3);
        int i = random.nextInt(5);
        int v = random.nextInt(260);
        Due.is("map", x.map(m, i, v), v < 243);
        model.maps[5 * m + i] = v < 243 ? v : model.maps[5 * m + i];
    }

    private static void list(NeedNotJoin x, Model model, Random random) {
        int i = random.nextInt(3) - 1;
        int w = random.nextInt(6);
        Due.is("take", x.take(2, 2, i, w), i == 0);
        if (i == 0) {
            model.act(w, new int[] {2, 2, 1, 0, 0, 1, 0, 1, 1, 1});
        }
    }

    private static void compare(NeedNotJoin x, Model model) {
        Due.is("can be undone", x.look(0), model.past.size());
        Due.is("can be redone", x.look(1), model.future.size());
        for (int at = 0; at < 15; at++) {
            Due.is("map", x.look(10 + at), model.maps[at]);
        }
        for (int w = 0; w < 6; w++) {
            int n = model.worlds[w][1];
            Due.is("p", x.of(w, 0), model.worlds[w][0]);
            Due.is("n", x.of(w, 1), n);
            for (int at = 0; at < n * n * n; at++) {
                Due.is("cube", x.cube(w, at / n / n, at / n % n, at % n), model.worlds[w][2 + at]);
            }
            Due.is("divides", x.of(w, 3), divides(x, w));
        }
    }

    /** Told from products of few elements alone: what it was told before must not stick. */
    private static int divides(NeedNotJoin x, int w) {
        int order = x.of(w, 2);
        if (order > 9) {
            return x.of(w, 4) == NO ? 1 : 0;
        }
        for (int a = 1; a < order; a++) {
            for (int b = 1; b < order; b++) {
                if (x.product(w, a, b) == 0) {
                    return 0;
                }
            }
        }
        return 1;
    }
}
