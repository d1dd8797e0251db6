import java.util.ArrayList;
import java.util.Arrays;
import java.util.HashSet;
import java.util.List;
import java.util.Set;

/** A world as the document's terms tell it, each answer by trying all elements: no algebra of its own. */
final class Brute {
    final int p;
    final int n;
    final int q;
    final int[][][] c;
    final int[][] m;
    final int[][] add;

    Brute(int p, int n, int[][][] c) {
        this.p = p;
        this.n = n;
        this.c = c;
        int order = 1;
        for (int i = 0; i < n; i++) {
            order *= p;
        }
        q = order;
        m = new int[q][q];
        add = new int[q][q];
        for (int x = 0; x < q; x++) {
            for (int y = 0; y < q; y++) {
                m[x][y] = slowProduct(x, y);
                int place = 1;
                for (int i = 0; i < n; i++) {
                    add[x][y] += (digit(x, i) + digit(y, i)) % p * place;
                    place *= p;
                }
            }
        }
    }

    int digit(int x, int i) {
        return x / base(i) % p;
    }

    int base(int i) {
        int b = 1;
        for (int a = 0; a < i; a++) {
            b *= p;
        }
        return b;
    }

    private int slowProduct(int x, int y) {
        int result = 0;
        for (int k = 0; k < n; k++) {
            int sum = 0;
            for (int i = 0; i < n; i++) {
                for (int j = 0; j < n; j++) {
                    sum += c[i][j][k] * digit(x, i) * digit(y, j);
                }
            }
            result += sum % p * base(k);
        }
        return result;
    }

    int minus(int x, int y) {
        for (int z = 0; z < q; z++) {
            if (add[z][y] == x) {
                return z;
            }
        }
        throw new IllegalStateException();
    }

    int failing() {
        for (int x = 1; x < q; x++) {
            for (int y = 1; y < q; y++) {
                if (m[x][y] == 0) {
                    return q * x + y;
                }
            }
        }
        return -1;
    }

    int unit() {
        for (int e = 0; e < q; e++) {
            boolean is = true;
            for (int x = 0; x < q && is; x++) {
                is = m[e][x] == x && m[x][e] == x;
            }
            if (is) {
                return e;
            }
        }
        return -1;
    }

    int commutes() {
        for (int x = 0; x < q; x++) {
            for (int y = 0; y < q; y++) {
                if (m[x][y] != m[y][x]) {
                    return 0;
                }
            }
        }
        return 1;
    }

    int joins() {
        for (int x = 0; x < q; x++) {
            for (int y = 0; y < q; y++) {
                for (int z = 0; z < q; z++) {
                    if (m[m[x][y]][z] != m[x][m[y][z]]) {
                        return 0;
                    }
                }
            }
        }
        return 1;
    }

    int unjoined() {
        for (int i = 0; i < n; i++) {
            for (int j = 0; j < n; j++) {
                for (int k = 0; k < n; k++) {
                    int x = base(i);
                    int y = base(j);
                    int z = base(k);
                    if (m[m[x][y]][z] != m[x][m[y][z]]) {
                        return 25 * i + 5 * j + k;
                    }
                }
            }
        }
        return -1;
    }

    boolean inNucleus(int a, int which) {
        for (int x = 0; x < q; x++) {
            for (int y = 0; y < q; y++) {
                boolean is = which == 0 ? m[m[a][x]][y] == m[a][m[x][y]]
                    : which == 1 ? m[m[x][a]][y] == m[x][m[a][y]] : m[m[x][y]][a] == m[x][m[y][a]];
                if (!is) {
                    return false;
                }
            }
        }
        return true;
    }

    int nucleus(int which) {
        int count = 0;
        for (int a = 0; a < q; a++) {
            count += inNucleus(a, which) ? 1 : 0;
        }
        return count;
    }

    int centre() {
        int count = 0;
        for (int a = 0; a < q; a++) {
            boolean is = inNucleus(a, 0) && inNucleus(a, 1) && inNucleus(a, 2);
            for (int x = 0; x < q && is; x++) {
                is = m[a][x] == m[x][a];
            }
            count += is ? 1 : 0;
        }
        return count;
    }

    int idempotents() {
        int count = 0;
        for (int x = 0; x < q; x++) {
            count += m[x][x] == x ? 1 : 0;
        }
        return count;
    }

    int planar() {
        if (p == 2) {
            return -1;
        }
        for (int a = 1; a < q; a++) {
            Set<Integer> seen = new HashSet<>();
            for (int x = 0; x < q; x++) {
                int s = add[x][a];
                if (!seen.add(minus(minus(m[s][s], m[x][x]), m[a][a]))) {
                    return 0;
                }
            }
        }
        return 1;
    }

    int squares() {
        Set<Integer> seen = new HashSet<>();
        for (int x = 0; x < q; x++) {
            seen.add(m[x][x]);
        }
        return seen.size();
    }

    private int log(long count) {
        int r = 0;
        for (long k = 1; k < count; k *= p) {
            r++;
        }
        return r;
    }

    int rank(int side, int x) {
        Set<Integer> seen = new HashSet<>();
        if (side < 2) {
            for (int z = 0; z < q; z++) {
                seen.add(side == 0 ? m[x][z] : m[z][x]);
            }
            return log(seen.size());
        }
        int radical = 0;
        for (int u = 0; u < q; u++) {
            boolean nought = true;
            for (int v = 0; v < q && nought; v++) {
                int w = m[u][v];
                int form = 0;
                for (int k = 0; k < n; k++) {
                    form += digit(x, k) * digit(w, k);
                }
                nought = form % p == 0;
            }
            radical += nought ? 1 : 0;
        }
        return n - log(radical);
    }

    int[] ranks(int side) {
        int[] counts = new int[n + 1];
        for (int x = 1; x < q; x++) {
            counts[rank(side, x)]++;
        }
        return counts;
    }

    int quotient(int x, int y, boolean left) {
        for (int z = 0; z < q; z++) {
            if ((left ? m[x][z] : m[z][x]) == y) {
                return z;
            }
        }
        return -1;
    }

    int powers(int x) {
        Set<Integer> seen = new HashSet<>();
        int y = x;
        while (seen.add(y)) {
            y = m[y][x];
        }
        return seen.size();
    }

    int span(int x, int y) {
        Set<Integer> set = new HashSet<>(Arrays.asList(x, y));
        boolean grows = true;
        while (grows) {
            Set<Integer> more = new HashSet<>(set);
            for (int u : set) {
                for (int v : set) {
                    more.add(add[u][v]);
                    more.add(m[u][v]);
                }
            }
            grows = more.size() > set.size();
            set = more;
        }
        return set.size();
    }

    /** All images of all elements by a map told by images of base elements. */
    int[] linear(int[] bases) {
        int[] all = new int[q];
        for (int x = 0; x < q; x++) {
            for (int i = 0; i < n; i++) {
                for (int d = 0; d < digit(x, i); d++) {
                    all[x] = add[all[x]][bases[i]];
                }
            }
        }
        return all;
    }

    int[] linearNumber(long number) {
        int[] bases = new int[n];
        for (int i = 0; i < n; i++) {
            bases[i] = (int) (number % q);
            number /= q;
        }
        return linear(bases);
    }

    long maps() {
        long count = 1;
        for (int i = 0; i < n; i++) {
            count *= q;
        }
        return count;
    }

    boolean isOneToOne(int[] map) {
        Set<Integer> seen = new HashSet<>();
        for (int x : map) {
            if (!seen.add(x)) {
                return false;
            }
        }
        return true;
    }

    int derivations() {
        long count = 0;
        for (long number = 0; number < maps(); number++) {
            count += satisfies(linearNumber(number), null, null) ? 1 : 0;
        }
        return log(count);
    }

    private boolean satisfies(int[] d, int[] e, int[] g) {
        int[] second = e == null ? d : e;
        int[] third = g == null ? d : g;
        for (int i = 0; i < n; i++) {
            for (int j = 0; j < n; j++) {
                int x = base(i);
                int y = base(j);
                if (third[m[x][y]] != add[m[d[x]][y]][m[x][second[y]]]) {
                    return false;
                }
            }
        }
        return true;
    }

    int triples() {
        long count = 0;
        int[][] all = new int[(int) maps()][];
        for (int number = 0; number < all.length; number++) {
            all[number] = linearNumber(number);
        }
        for (int[] d : all) {
            for (int[] e : all) {
                for (int[] g : all) {
                    count += satisfies(d, e, g) ? 1 : 0;
                }
            }
        }
        return log(count);
    }

    /** Unknowns less the rank of what single unknowns do: for worlds with too many triples to try. */
    int triplesByRank() {
        List<int[]> rows = new ArrayList<>();
        int rank = 0;
        for (int unknown = 0; unknown < 3 * n * n; unknown++) {
            int[] row = effect(unknown / (n * n), unknown / n % n, unknown % n);
            for (int[] other : rows) {
                int lead = 0;
                while (other[lead] == 0) {
                    lead++;
                }
                while (row[lead] != 0) {
                    for (int at = 0; at < row.length; at++) {
                        row[at] = (row[at] + other[at]) % p;
                    }
                }
            }
            if (Arrays.stream(row).anyMatch(d -> d != 0)) {
                rows.add(row);
                rank++;
            }
        }
        return 3 * n * n - rank;
    }

    /** D(x) y + x E(y) less G(x y), where one of the three sends base element i to base element m, others to 0. */
    private int[] effect(int which, int i, int m) {
        int[] bases = new int[n];
        bases[i] = base(m);
        int[] map = linear(bases);
        int[] row = new int[n * n * n];
        for (int at = 0; at < row.length; at++) {
            int x = base(at / n / n);
            int y = base(at / n % n);
            int value = which == 0 ? this.m[map[x]][y] : which == 1 ? this.m[x][map[y]] : map[this.m[x][y]];
            row[at] = (which == 2 ? p - digit(value, at % n) : digit(value, at % n)) % p;
        }
        return row;
    }

    int parted(Brute to) {
        for (int side = 0; side < 3; side++) {
            if (!Arrays.equals(ranks(side), to.ranks(side))) {
                return side;
            }
        }
        return triplesByRank() != to.triplesByRank() ? 3 : -1;
    }

    int same(Brute to) {
        int count = 0;
        for (long number = 0; number < maps(); number++) {
            int[] map = linearNumber(number);
            if (isOneToOne(map) && carries(to, map, map, map) < 0) {
                count++;
            }
        }
        return count;
    }

    int carries(Brute to, int[] f, int[] g, int[] h) {
        for (int i = 0; i < n; i++) {
            for (int j = 0; j < n; j++) {
                if (to.m[f[base(i)]][g[base(j)]] != h[m[base(i)][base(j)]]) {
                    return 5 * i + j;
                }
            }
        }
        return -1;
    }

    /** For a world with the unit 1: all F, all v = G(1); H(x) is F(x) v, and G(y) is the quotient of H(y) by F(1). */
    int isotopes(Brute to) {
        int count = 0;
        for (long number = 0; number < maps(); number++) {
            int[] f = linearNumber(number);
            if (!isOneToOne(f)) {
                continue;
            }
            for (int v = 1; v < q; v++) {
                int[] h = new int[q];
                int[] g = new int[q];
                for (int x = 0; x < q; x++) {
                    h[x] = to.m[f[x]][v];
                    g[x] = to.quotient(f[1], h[x], true);
                }
                count += carries(to, f, g, h) < 0 ? 1 : 0;
            }
        }
        return count;
    }

    Brute unital(int e) {
        int[][] star = new int[q][q];
        for (int x = 0; x < q; x++) {
            for (int y = 0; y < q; y++) {
                star[m[x][e]][m[e][y]] = m[x][y];
            }
        }
        int[][][] cube = new int[n][n][n];
        for (int i = 0; i < n; i++) {
            for (int j = 0; j < n; j++) {
                for (int k = 0; k < n; k++) {
                    cube[i][j][k] = digit(star[base(i)][base(j)], k);
                }
            }
        }
        return new Brute(p, n, cube);
    }

    boolean isOn(int point, int line) {
        int last = q * q + q;
        if (point < q * q) {
            int x = point / q;
            int y = point % q;
            if (line < q * q) {
                return y == add[m[line / q][x]][line % q];
            }
            return line < last && x == line - q * q;
        }
        if (point < last) {
            return line == last || line < q * q && line / q == point - q * q;
        }
        return line >= q * q;
    }

    int join(int u, int v) {
        return theOne(u, v, true);
    }

    int meet(int u, int v) {
        return theOne(u, v, false);
    }

    private int theOne(int u, int v, boolean join) {
        int found = -1;
        for (int w = 0; w <= q * q + q; w++) {
            if (join ? isOn(u, w) && isOn(v, w) : isOn(w, u) && isOn(w, v)) {
                if (found >= 0) {
                    throw new IllegalStateException("two");
                }
                found = w;
            }
        }
        return found;
    }

    private boolean inLine(int a, int b, int c) {
        for (int line = 0; line <= q * q + q; line++) {
            if (isOn(a, line) && isOn(b, line) && isOn(c, line)) {
                return true;
            }
        }
        return false;
    }

    int fano(int a, int b, int c, int d) {
        int last = q * q + q;
        for (int point : new int[] {a, b, c, d}) {
            if (point < 0 || point > last) {
                return -1;
            }
        }
        if (a == b || a == c || a == d || b == c || b == d || c == d) {
            return -1;
        }
        if (inLine(a, b, c) || inLine(a, b, d) || inLine(a, c, d) || inLine(b, c, d)) {
            return -1;
        }
        int first = meet(join(a, b), join(c, d));
        int second = meet(join(a, c), join(b, d));
        int third = meet(join(a, d), join(b, c));
        return inLine(first, second, third) ? 1 : 0;
    }
}
