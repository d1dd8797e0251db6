public final class NeedNotJoin {
    public static final int NONE = -1;

    private static final int WORLDS = 6;
    private static final int PLACES = 5;
    private static final int GREATEST_ORDER = 243;
    private static final int CELLS = 125;
    private static final int LEFT = 0;
    private static final int RIGHT = 1;
    private static final int THIRD = 2;
    private static final int BOTH = 3;

    private final State now = new State();
    private final State kept = new State();
    private boolean isKept = false;
    private final Reader reader = new Reader();
    private final Echelon echelon = new Echelon();
    private final Forms forms = new Forms(echelon);
    private final Study study = new Study(echelon, forms);
    private final Plane geometry = new Plane(study);
    private final Search search = new Search();
    private final Lists lists = new Lists(study);
    private final World draft = new World();

    public NeedNotJoin() {
    }

    public int feed(int a, int b, int c, int d, int e) {
        if (!reader.hasRoom()) {
            return NONE;
        }
        reader.takeNumber(a);
        reader.takeNumber(b);
        reader.takeNumber(c);
        reader.takeNumber(d);
        reader.takeNumber(e);
        return reader.length();
    }

    public boolean end(int n) {
        return reader.cutAt(n);
    }

    public int text(int w) {
        World world = now.world(w);
        if (world == null) {
            reader.forget();
            return NONE;
        }
        if (!reader.read()) {
            return NONE;
        }
        now.tell(w, reader.told());
        return reader.told().order();
    }

    public int fault(int what) {
        if (what == 0) {
            return reader.faultKind();
        }
        return what == 1 ? reader.faultPlace() : NONE;
    }

    public boolean digit(int w, int i, int j, int k, int v) {
        World world = now.world(w);
        if (world == null || !world.hasCell(i, j, k) || v < 0 || v >= world.prime()) {
            return false;
        }
        draft.copy(world);
        draft.put(i, j, k, v);
        now.tell(w, draft);
        return true;
    }

    public int cube(int w, int i, int j, int k) {
        World world = now.world(w);
        if (world == null || !world.hasCell(i, j, k)) {
            return NONE;
        }
        return world.cell(i, j, k);
    }

    public int of(int w, int what) {
        World world = now.world(w);
        if (world == null) {
            return NONE - 1;
        }
        switch (what) {
            case 0: return world.prime();
            case 1: return world.size();
            case 2: return world.order();
            case 3: return study.divides(world) ? 1 : 0;
            case 4: return study.failing(world);
            case 5: return study.unit(world);
            case 6: return world.commutes() ? 1 : 0;
            case 7: return study.firstUnjoined(world) == NONE ? 1 : 0;
            case 8: return study.firstUnjoined(world);
            case 9:
            case 10:
            case 11: return study.nucleus(world, what - 9);
            case 12: return study.centre(world);
            case 13: return study.idempotents(world);
            case 14: return forms.planar(world);
            case 15: return study.squares(world);
            case 16: return forms.derivations(world);
            case 17: return forms.triples(world);
            default: return NONE - 1;
        }
    }

    public int product(int w, int x, int y) {
        World world = now.world(w);
        if (world == null || !world.hasElement(x) || !world.hasElement(y)) {
            return NONE;
        }
        return world.times(x, y);
    }

    public int quotient(int w, int x, int y, boolean left) {
        World world = now.world(w);
        if (world == null || !world.hasElement(x) || !world.hasElement(y)) {
            return NONE;
        }
        return study.divide(world, x, y, left);
    }

    public int ranks(int w, int side, int r) {
        World world = now.world(w);
        if (world == null || side < LEFT || side > THIRD || r < 0 || r > world.size()) {
            return NONE;
        }
        return forms.howManyOfRank(world, side, r);
    }

    public int powers(int w, int x) {
        World world = now.world(w);
        if (world == null || !world.hasElement(x)) {
            return NONE;
        }
        return study.unlikePowers(world, x);
    }

    public int span(int w, int x, int y) {
        World world = now.world(w);
        if (world == null || !world.hasElement(x) || !world.hasElement(y)) {
            return NONE;
        }
        return study.closure(world, x, y);
    }

    public int fano(int w, int a, int b, int c, int d) {
        World world = now.world(w);
        if (world == null || !study.divides(world)) {
            return NONE;
        }
        return geometry.diagonals(world, a, b, c, d);
    }

    public int parted(int a, int b) {
        World first = now.world(a);
        World second = now.world(b);
        if (!alike(first, second)) {
            return NONE - 1;
        }
        return forms.whatParts(first, second);
    }

    public boolean turn(int a, int b, int w) {
        World from = now.world(a);
        if (from == null || now.world(b) == null || w < 0 || w > 5) {
            return false;
        }
        draft.turnFrom(from, w);
        now.tell(b, draft);
        return true;
    }

    public int unital(int a, int b, int e) {
        World from = now.world(a);
        if (from == null || now.world(b) == null || e == 0 || !from.hasElement(e)) {
            return NONE;
        }
        if (!study.divides(from)) {
            return NONE;
        }
        study.makeUnital(from, e, draft);
        int unit = from.times(e, e);
        now.tell(b, draft);
        return unit;
    }

    public int undo(boolean back) {
        return back ? now.goBack() : now.goForth();
    }

    public boolean map(int which, int i, int v) {
        return now.tellImage(which, i, v);
    }

    public int carry(int a, int b) {
        World from = now.world(a);
        World to = now.world(b);
        if (!alike(from, to)) {
            return NONE - 1;
        }
        return study.whatIsNotCarried(from, to, now);
    }

    public int same(int a, int b) {
        World from = now.world(a);
        World to = now.world(b);
        if (!alike(from, to) || from.order() > Search.GREATEST_SAME) {
            return NONE;
        }
        return search.countSame(from, to);
    }

    public int isotopes(int a, int b) {
        World from = now.world(a);
        World to = now.world(b);
        if (!alike(from, to) || from.order() > Search.GREATEST_ISOTOPE) {
            return NONE;
        }
        if (!study.divides(from) || !study.divides(to) || study.unit(from) != 1) {
            return NONE;
        }
        return search.countIsotopes(from, to);
    }

    public int plane(int w, int u, int v, int what) {
        World world = now.world(w);
        if (world == null || !study.divides(world)) {
            return NONE;
        }
        if (!geometry.hasPlace(world, u) || !geometry.hasPlace(world, v)) {
            return NONE;
        }
        switch (what) {
            case 0: return u == v ? NONE : geometry.join(world, u, v);
            case 1: return u == v ? NONE : geometry.meet(world, u, v);
            case 2: return geometry.isOn(world, u, v) ? 1 : 0;
            default: return NONE;
        }
    }

    public int list(int p, int n, int what) {
        return lists.count(p, n, what);
    }

    public boolean take(int p, int n, int i, int w) {
        if (now.world(w) == null || !lists.hasWorld(p, n, i)) {
            return false;
        }
        lists.bring(p, n, i, draft);
        now.tell(w, draft);
        return true;
    }

    public boolean image(boolean taken) {
        if (taken) {
            kept.copy(now);
            isKept = true;
            return true;
        }
        if (!isKept) {
            return false;
        }
        now.copy(kept);
        return true;
    }

    public int look(int what) {
        if (what == 0) {
            return now.canGoBack();
        }
        if (what == 1) {
            return now.canGoForth();
        }
        return what < 10 ? NONE : now.imageAt(what - 10);
    }

    private static boolean alike(World a, World b) {
        return a != null && b != null && a.prime() == b.prime() && a.size() == b.size();
    }

    /** Elements as numbers: their digits to the base of a prime. */
    private static final class Sums {
        static boolean isPrime(int p) {
            return p == 2 || p == 3 || p == 5;
        }

        static int power(int p, int i) {
            int result = 1;
            for (int at = 0; at < i && at < PLACES; at++) {
                result *= p;
            }
            return result;
        }

        static int plus(int p, int x, int y) {
            if (p == 2) {
                return x ^ y;
            }
            if (p < 2) {
                return 0;
            }
            int sum = 0;
            int place = 1;
            int restX = x;
            int restY = y;
            for (int i = 0; i < PLACES; i++) {
                sum += (restX % p + restY % p) % p * place;
                restX /= p;
                restY /= p;
                place *= p;
            }
            return sum;
        }

        static int manifold(int p, int factor, int x) {
            if (p < 2) {
                return 0;
            }
            int sum = 0;
            int place = 1;
            int rest = x;
            for (int i = 0; i < PLACES; i++) {
                sum += factor * (rest % p) % p * place;
                rest /= p;
                place *= p;
            }
            return sum;
        }

        static int less(int p, int x, int y) {
            return plus(p, x, manifold(p, p - 1, y));
        }

        static void unpack(int p, int x, int[] digits) {
            if (p < 2) {
                return;
            }
            int rest = x;
            for (int i = 0; i < digits.length; i++) {
                digits[i] = rest % p;
                rest /= p;
            }
        }

        /** The images of all elements by the map that sends base element i to bases[i]. */
        static void spread(int p, int n, int[] bases, int[] images) {
            if (images.length == 0 || n > bases.length) {
                return;
            }
            images[0] = 0;
            int reach = 1;
            for (int i = 0; i < n; i++) {
                int end = reach * p;
                for (int x = reach; x < end && x < images.length; x++) {
                    images[x] = plus(p, images[x - reach], bases[i]);
                }
                reach = end;
            }
        }
    }

    /** A cube over a prime. Its prime is 2, 3 or 5, its size 1 to 5, its order 243 at most. */
    private static final class World {
        static final int UNKNOWN = -2;

        private int prime = 2;
        private int size = 1;
        private int order = 2;
        private int failing = UNKNOWN;
        private final int[] cells = new int[CELLS];
        private final int[] sums = new int[PLACES];

        static boolean canBe(int p, int n) {
            return Sums.isPrime(p) && n >= 1 && n <= PLACES && Sums.power(p, n) <= GREATEST_ORDER;
        }

        void clear(int p, int n) {
            if (!canBe(p, n)) {
                return;
            }
            prime = p;
            size = n;
            order = Sums.power(p, n);
            failing = UNKNOWN;
            for (int at = 0; at < CELLS; at++) {
                cells[at] = 0;
            }
        }

        void copy(World from) {
            prime = from.prime;
            size = from.size;
            order = from.order;
            failing = from.failing;
            System.arraycopy(from.cells, 0, cells, 0, CELLS);
        }

        int prime() {
            return prime;
        }

        int size() {
            return size;
        }

        int order() {
            return order;
        }

        /** What division found last time, so that planes need not look at all couples each call. */
        int knownFailing() {
            return failing;
        }

        void learnFailing(int found) {
            failing = found;
        }

        boolean hasElement(int x) {
            return x >= 0 && x < order;
        }

        boolean hasCell(int i, int j, int k) {
            return i >= 0 && i < size && j >= 0 && j < size && k >= 0 && k < size;
        }

        int cell(int i, int j, int k) {
            if (i < 0 || i >= size || j < 0 || j >= size || k < 0 || k >= size) {
                return 0;
            }
            return cells[25 * i + 5 * j + k];
        }

        void put(int i, int j, int k, int v) {
            if (hasCell(i, j, k)) {
                cells[25 * i + 5 * j + k] = v;
                failing = UNKNOWN;
            }
        }

        void putRow(int i, int j, int element) {
            int rest = element;
            for (int k = 0; k < size; k++) {
                put(i, j, k, rest % prime);
                rest /= prime;
            }
        }

        int base(int i) {
            return Sums.power(prime, i);
        }

        int times(int x, int y) {
            for (int k = 0; k < PLACES; k++) {
                sums[k] = 0;
            }
            int restX = x;
            for (int i = 0; i < size; i++) {
                int factor = restX % prime;
                restX /= prime;
                int restY = factor == 0 ? 0 : y;
                for (int j = 0; j < size && restY != 0; j++) {
                    int both = factor * (restY % prime);
                    restY /= prime;
                    for (int k = 0; k < size && both != 0; k++) {
                        sums[k] += both * cells[25 * i + 5 * j + k];
                    }
                }
            }
            int result = 0;
            for (int k = size - 1; k >= 0; k--) {
                result = result * prime + sums[k] % prime;
            }
            return result;
        }

        boolean commutes() {
            for (int i = 0; i < size; i++) {
                for (int j = 0; j < i; j++) {
                    for (int k = 0; k < size; k++) {
                        if (cell(i, j, k) != cell(j, i, k)) {
                            return false;
                        }
                    }
                }
            }
            return true;
        }

        void turnFrom(World from, int way) {
            clear(from.prime, from.size);
            for (int i = 0; i < size; i++) {
                for (int j = 0; j < size; j++) {
                    for (int k = 0; k < size; k++) {
                        put(i, j, k, from.turnedCell(way, i, j, k));
                    }
                }
            }
        }

        private int turnedCell(int way, int i, int j, int k) {
            switch (way) {
                case 1: return cell(j, i, k);
                case 2: return cell(k, j, i);
                case 3: return cell(i, k, j);
                case 4: return cell(k, i, j);
                case 5: return cell(j, k, i);
                default: return cell(i, j, k);
            }
        }
    }

    /** The six worlds, the maps, and the acts that can be undone and redone. */
    private static final class State {
        private static final int ACTS = 20;
        private static final int IMAGES = 15;

        private final World[] worlds = new World[WORLDS];
        private final World[] others = new World[ACTS];
        private final int[] whose = new int[ACTS];
        private final int[] images = new int[IMAGES];
        private int done = 0;
        private int undone = 0;

        State() {
            for (int w = 0; w < WORLDS; w++) {
                worlds[w] = new World();
            }
            for (int act = 0; act < ACTS; act++) {
                others[act] = new World();
            }
            for (int at = 0; at < IMAGES; at++) {
                images[at] = NONE;
            }
        }

        void copy(State from) {
            for (int w = 0; w < WORLDS; w++) {
                worlds[w].copy(from.worlds[w]);
            }
            for (int act = 0; act < ACTS; act++) {
                others[act].copy(from.others[act]);
                whose[act] = from.whose[act];
            }
            System.arraycopy(from.images, 0, images, 0, IMAGES);
            done = from.done;
            undone = from.undone;
        }

        World world(int w) {
            return w >= 0 && w < WORLDS ? worlds[w] : null;
        }

        void tell(int w, World told) {
            if (w < 0 || w >= WORLDS || told == null) {
                return;
            }
            if (done >= ACTS) {
                dropOldest();
            }
            others[done].copy(worlds[w]);
            whose[done] = w;
            done++;
            undone = 0;
            worlds[w].copy(told);
        }

        private void dropOldest() {
            World oldest = others[0];
            for (int act = 1; act < ACTS; act++) {
                others[act - 1] = others[act];
                whose[act - 1] = whose[act];
            }
            others[ACTS - 1] = oldest;
            done = ACTS - 1;
        }

        int goBack() {
            if (done < 1 || done > ACTS) {
                return NONE;
            }
            done--;
            undone++;
            return exchange(done);
        }

        int goForth() {
            if (undone < 1 || done < 0 || done >= ACTS) {
                return NONE;
            }
            int world = exchange(done);
            done++;
            undone--;
            return world;
        }

        /** An act holds the world that is not in force: the earlier one when done, the later one when undone. */
        private int exchange(int act) {
            int w = whose[act];
            World inForce = worlds[w];
            worlds[w] = others[act];
            others[act] = inForce;
            return w;
        }

        int canGoBack() {
            return done;
        }

        int canGoForth() {
            return undone;
        }

        boolean tellImage(int which, int i, int v) {
            if (which < 0 || which > 2 || i < 0 || i >= PLACES || v < 0 || v >= GREATEST_ORDER) {
                return false;
            }
            images[PLACES * which + i] = v;
            return true;
        }

        int imageAt(int at) {
            return at >= 0 && at < IMAGES ? images[at] : NONE;
        }
    }

    /** The tape, and the world that it tells. */
    private static final class Reader {
        private static final int TAPE = 600;
        private static final int FEED = 20;
        private static final int STATEMENTS = 40;
        private static final int MOST_DIGITS = 4;
        private static final int END = 0;
        private static final int WORD = 1;
        private static final int NUMBER = 2;
        private static final int STOP = 3;
        private static final int OTHER = 4;

        private final int[] tape = new int[TAPE];
        private int length = 0;
        private int place = 0;
        private int kind = END;
        private int start = 0;
        private int value = 0;
        private int fault = 0;
        private int faultPlace = NONE;
        private int statements = 0;
        private boolean hasField = false;
        private final World world = new World();
        private final World field = new World();
        private final World spare = new World();
        private final int[] numbers = new int[PLACES];
        private final int[] raisedLeft = new int[PLACES];
        private final int[] raisedRight = new int[PLACES];

        boolean hasRoom() {
            return length + FEED <= TAPE;
        }

        void takeNumber(int number) {
            for (int shift = 24; shift >= 0 && length < TAPE; shift -= 8) {
                tape[length] = (number >>> shift) & 255;
                length++;
            }
        }

        int length() {
            return length;
        }

        boolean cutAt(int n) {
            if (n < 0 || n > length) {
                return false;
            }
            length = n;
            return true;
        }

        void forget() {
            length = 0;
            fault = 0;
            faultPlace = NONE;
        }

        int faultKind() {
            return fault;
        }

        int faultPlace() {
            return faultPlace;
        }

        World told() {
            return world;
        }

        boolean read() {
            fault = 0;
            faultPlace = NONE;
            place = 0;
            statements = 0;
            hasField = false;
            world.clear(2, 1);
            step();
            for (int turns = 0; turns <= TAPE && kind != END && fault == 0; turns++) {
                statement();
            }
            length = 0;
            return fault == 0;
        }

        private boolean fail(int what) {
            fault = what;
            faultPlace = start;
            return false;
        }

        private void statement() {
            boolean orders = isWord("order");
            boolean twists = isWord("twist");
            boolean fields = isWord("field");
            boolean tellsRow = isWord("at");
            boolean known = orders || twists || fields || tellsRow || isWord("turn");
            if (!known || orders != (statements == 0) || twists && !hasField) {
                fail(1);
                return;
            }
            if (statements >= STATEMENTS) {
                fail(3);
                return;
            }
            statements++;
            boolean isWell = orders ? order() : twists ? twist() : fields ? polynomials()
                    : tellsRow ? row() : turning();
            if (isWell && expect(STOP)) {
                step();
            }
        }

        private boolean expect(int wanted) {
            return kind == wanted || fail(1);
        }

        /** The keyword or number before it is left behind; the next one has to be a number below a bound. */
        private boolean numberBelow(int bound) {
            step();
            if (!expect(NUMBER)) {
                return false;
            }
            return value < bound || fail(2);
        }

        private boolean order() {
            if (!numberBelow(PLACES + 1)) {
                return false;
            }
            int p = value;
            if (!Sums.isPrime(p)) {
                return fail(2);
            }
            if (!numberBelow(PLACES + 1)) {
                return false;
            }
            if (!World.canBe(p, value)) {
                return fail(2);
            }
            world.clear(p, value);
            step();
            return true;
        }

        private boolean polynomials() {
            for (int i = 0; i < world.size(); i++) {
                if (!numberBelow(world.prime())) {
                    return false;
                }
                numbers[i] = value;
            }
            fillPolynomials();
            field.copy(world);
            hasField = true;
            step();
            return true;
        }

        private void fillPolynomials() {
            int n = world.size();
            int p = world.prime();
            int remainder = 0;
            for (int i = 0; i < n; i++) {
                remainder += numbers[i] * world.base(i);
            }
            int power = 1;
            int top = world.base(n - 1);
            for (int degree = 0; degree <= 2 * n - 2; degree++) {
                for (int i = Math.max(0, degree - n + 1); i <= degree && i < n; i++) {
                    world.putRow(i, degree - i, power);
                }
                int over = top < 1 ? 0 : power / top;
                power = Sums.plus(p, (power - over * top) * p, Sums.manifold(p, over, remainder));
            }
        }

        private boolean twist() {
            if (!numberBelow(world.order())) {
                return false;
            }
            int factor = value;
            if (!numberBelow(PLACES)) {
                return false;
            }
            int left = value;
            if (!numberBelow(PLACES)) {
                return false;
            }
            fillTwist(factor, left, value);
            step();
            return true;
        }

        private void fillTwist(int factor, int left, int right) {
            int n = world.size();
            for (int i = 0; i < n; i++) {
                raisedLeft[i] = raise(world.base(i), left);
                raisedRight[i] = raise(world.base(i), right);
            }
            for (int i = 0; i < n; i++) {
                int taken = field.times(factor, raisedLeft[i]);
                for (int j = 0; j < n; j++) {
                    int plain = field.times(world.base(i), world.base(j));
                    int less = field.times(taken, raisedRight[j]);
                    world.putRow(i, j, Sums.less(world.prime(), plain, less));
                }
            }
        }

        /** Products of polynomials join, so p-th powers of p-th powers are the long product from the left. */
        private int raise(int x, int often) {
            int result = x;
            for (int i = 0; i < often && i < PLACES; i++) {
                int once = result;
                for (int factor = 1; factor < field.prime(); factor++) {
                    result = field.times(result, once);
                }
            }
            return result;
        }

        private boolean row() {
            if (!numberBelow(world.size())) {
                return false;
            }
            int i = value;
            if (!numberBelow(world.size())) {
                return false;
            }
            int j = value;
            for (int k = 0; k < world.size(); k++) {
                if (!numberBelow(world.prime())) {
                    return false;
                }
                world.put(i, j, k, value);
            }
            step();
            return true;
        }

        private boolean turning() {
            if (!numberBelow(6)) {
                return false;
            }
            spare.copy(world);
            world.turnFrom(spare, value);
            step();
            return true;
        }

        private void step() {
            while (place < length && place < TAPE && (tape[place] == 32 || tape[place] == 10)) {
                place++;
            }
            start = place;
            if (place >= length || place >= TAPE) {
                kind = END;
            } else if (isLetter(tape[place])) {
                kind = WORD;
                while (place < length && place < TAPE && isLetter(tape[place])) {
                    place++;
                }
            } else if (isDigit(tape[place])) {
                stepNumber();
            } else {
                kind = tape[place] == ';' ? STOP : OTHER;
                place++;
            }
        }

        private void stepNumber() {
            value = 0;
            while (place < length && place < TAPE && isDigit(tape[place])) {
                if (place - start < MOST_DIGITS) {
                    value = 10 * value + tape[place] - '0';
                }
                place++;
            }
            kind = place - start <= MOST_DIGITS ? NUMBER : OTHER;
        }

        private boolean isWord(String word) {
            if (kind != WORD || place - start != word.length() || place > TAPE) {
                return false;
            }
            for (int i = 0; i < word.length(); i++) {
                if (tape[start + i] != word.charAt(i)) {
                    return false;
                }
            }
            return true;
        }

        private static boolean isLetter(int sign) {
            return sign >= 'a' && sign <= 'z' || sign >= 'A' && sign <= 'Z';
        }

        private static boolean isDigit(int sign) {
            return sign >= '0' && sign <= '9';
        }
    }

    /** Rows over a prime, taken in one by one; each that is independent of those before it leads a column. */
    private static final class Echelon {
        static final int WIDEST = 75;

        private int prime = 2;
        private int width = 1;
        private int rank = 0;
        private final int[][] rows = new int[WIDEST][WIDEST];
        private final boolean[] isLed = new boolean[WIDEST];
        private final int[] next = new int[WIDEST];

        void start(int p, int columns) {
            if (!Sums.isPrime(p) || columns < 1 || columns > WIDEST) {
                return;
            }
            prime = p;
            width = columns;
            rank = 0;
            for (int c = 0; c < width; c++) {
                isLed[c] = false;
                next[c] = 0;
            }
        }

        int rank() {
            return rank;
        }

        void add(int column, int amount) {
            if (column >= 0 && column < width) {
                next[column] = (next[column] + amount) % prime;
            }
        }

        void addElement(int x) {
            int rest = x;
            for (int c = 0; c < width && rest != 0; c++) {
                add(c, rest % prime);
                rest /= prime;
            }
        }

        /** Whether the row was independent; the next one starts empty. */
        boolean settle() {
            boolean isNew = false;
            for (int c = 0; c < width; c++) {
                if (next[c] == 0) {
                    continue;
                }
                if (isLed[c]) {
                    reduce(c);
                } else {
                    lead(c);
                    isNew = true;
                    break;
                }
            }
            for (int c = 0; c < width; c++) {
                next[c] = 0;
            }
            return isNew;
        }

        private void reduce(int from) {
            int[] row = rows[from];
            int factor = prime - next[from];
            for (int c = from; c < width; c++) {
                if (row[c] != 0) {
                    next[c] = (next[c] + factor * row[c]) % prime;
                }
            }
        }

        private void lead(int from) {
            int[] row = rows[from];
            int first = next[from];
            // the inverse is the power to p - 2: for 2 and 3 each digit is its own
            int inverse = prime == 5 ? first * first * first % prime : first;
            for (int c = 0; c < width; c++) {
                row[c] = next[c] * inverse % prime;
            }
            isLed[from] = true;
            rank++;
        }
    }

    /** What is asked of one world's elements. */
    private static final class Study {
        private final Echelon echelon;
        private final Forms forms;
        private final int[] bases = new int[PLACES];
        private final int[] members = new int[PLACES];
        private final int[] differences = new int[CELLS];
        private final int[] table = new int[GREATEST_ORDER];
        private final boolean[] seen = new boolean[GREATEST_ORDER];

        Study(Echelon echelon, Forms forms) {
            this.echelon = echelon;
            this.forms = forms;
        }

        boolean divides(World w) {
            return failing(w) == NONE;
        }

        int failing(World w) {
            if (w.knownFailing() == World.UNKNOWN) {
                int x = forms.leastSingular(w, LEFT);
                w.learnFailing(x == NONE ? NONE : w.order() * x + leastToNought(w, x));
            }
            return w.knownFailing();
        }

        private int leastToNought(World w, int x) {
            for (int y = 1; y < w.order(); y++) {
                if (w.times(x, y) == 0) {
                    return y;
                }
            }
            return 0;
        }

        int unit(World w) {
            for (int e = 1; e < w.order(); e++) {
                if (isUnit(w, e)) {
                    return e;
                }
            }
            return NONE;
        }

        private boolean isUnit(World w, int e) {
            for (int i = 0; i < w.size(); i++) {
                int x = w.base(i);
                if (w.times(e, x) != x || w.times(x, e) != x) {
                    return false;
                }
            }
            return true;
        }

        int divide(World w, int x, int y, boolean left) {
            tabulate(w, x, left);
            for (int z = 0; z < w.order() && z < GREATEST_ORDER; z++) {
                if (table[z] == y) {
                    return z;
                }
            }
            return NONE;
        }

        private void tabulate(World w, int x, boolean left) {
            for (int i = 0; i < w.size(); i++) {
                bases[i] = left ? w.times(x, w.base(i)) : w.times(w.base(i), x);
            }
            Sums.spread(w.prime(), w.size(), bases, table);
        }

        /** Only for a world that divides: both quotients by e are there then. */
        void makeUnital(World w, int e, World into) {
            int n = w.size();
            for (int i = 0; i < n; i++) {
                members[i] = divide(w, e, w.base(i), false);
            }
            into.clear(w.prime(), n);
            for (int j = 0; j < n; j++) {
                int second = divide(w, e, w.base(j), true);
                for (int i = 0; i < n; i++) {
                    into.putRow(i, j, w.times(members[i], second));
                }
            }
        }

        private int difference(World w, int i, int j, int k) {
            int x = w.base(i);
            int y = w.base(j);
            int z = w.base(k);
            int early = w.times(w.times(x, y), z);
            int late = w.times(x, w.times(y, z));
            return early == late ? 0 : Sums.less(w.prime(), early, late);
        }

        int firstUnjoined(World w) {
            int n = w.size();
            for (int i = 0; i < n; i++) {
                for (int j = 0; j < n; j++) {
                    for (int k = 0; k < n; k++) {
                        if (difference(w, i, j, k) != 0) {
                            return 25 * i + 5 * j + k;
                        }
                    }
                }
            }
            return NONE;
        }

        private void findDifferences(World w) {
            int n = w.size();
            for (int i = 0; i < n; i++) {
                for (int j = 0; j < n; j++) {
                    for (int k = 0; k < n; k++) {
                        differences[25 * i + 5 * j + k] = difference(w, i, j, k);
                    }
                }
            }
        }

        int nucleus(World w, int where) {
            findDifferences(w);
            echelon.start(w.prime(), w.size());
            demandJoining(w, where);
            return Sums.power(w.prime(), w.size() - echelon.rank());
        }

        int centre(World w) {
            findDifferences(w);
            echelon.start(w.prime(), w.size());
            demandJoining(w, 0);
            demandJoining(w, 1);
            demandJoining(w, 2);
            demandCommuting(w);
            return Sums.power(w.prime(), w.size() - echelon.rank());
        }

        /** Each digit of each difference has to be 0: an equation for the digits of the element at a place. */
        private void demandJoining(World w, int where) {
            int own = where == 0 ? 25 : where == 1 ? 5 : 1;
            int first = where == 0 ? 5 : 25;
            int second = where == 2 ? 5 : 1;
            int n = w.size();
            for (int a = 0; a < n; a++) {
                for (int b = 0; b < n; b++) {
                    demandNought(w, first * a + second * b, own);
                }
            }
        }

        private void demandNought(World w, int start, int stride) {
            int n = w.size();
            int p = w.prime();
            if (start < 0 || stride < 0 || start + stride * (n - 1) >= CELLS) {
                return;
            }
            for (int k = 0; k < n; k++) {
                int place = w.base(k);
                for (int i = 0; i < n && place > 0; i++) {
                    echelon.add(i, differences[start + stride * i] / place % p);
                }
                echelon.settle();
            }
        }

        private void demandCommuting(World w) {
            int n = w.size();
            for (int j = 0; j < n; j++) {
                for (int k = 0; k < n; k++) {
                    for (int i = 0; i < n; i++) {
                        echelon.add(i, w.prime() + w.cell(i, j, k) - w.cell(j, i, k));
                    }
                    echelon.settle();
                }
            }
        }

        int idempotents(World w) {
            int count = 0;
            for (int x = 0; x < w.order(); x++) {
                if (w.times(x, x) == x) {
                    count++;
                }
            }
            return count;
        }

        int squares(World w) {
            forgetSeen();
            int count = 0;
            for (int x = 0; x < w.order(); x++) {
                if (isFirstSeen(w.times(x, x))) {
                    count++;
                }
            }
            return count;
        }

        int unlikePowers(World w, int x) {
            forgetSeen();
            int power = x;
            int count = 0;
            for (int turns = 0; turns < GREATEST_ORDER && isFirstSeen(power); turns++) {
                count++;
                power = w.times(power, x);
            }
            return count;
        }

        private void forgetSeen() {
            for (int x = 0; x < GREATEST_ORDER; x++) {
                seen[x] = false;
            }
        }

        private boolean isFirstSeen(int x) {
            if (x < 0 || x >= GREATEST_ORDER || seen[x]) {
                return false;
            }
            seen[x] = true;
            return true;
        }

        int closure(World w, int x, int y) {
            echelon.start(w.prime(), w.size());
            gather(x);
            gather(y);
            for (int i = 0; i < echelon.rank() && i < PLACES; i++) {
                for (int j = 0; j <= i; j++) {
                    gather(w.times(members[i], members[j]));
                    gather(w.times(members[j], members[i]));
                }
            }
            return Sums.power(w.prime(), echelon.rank());
        }

        private void gather(int x) {
            int at = echelon.rank();
            echelon.addElement(x);
            if (echelon.settle() && at < PLACES) {
                members[at] = x;
            }
        }

        int whatIsNotCarried(World from, World to, State state) {
            int n = from.size();
            for (int m = 0; m < 3; m++) {
                for (int i = 0; i < n; i++) {
                    if (!to.hasElement(imageOf(from, state, m, i))) {
                        return NONE - 1;
                    }
                }
            }
            for (int m = 0; m < 3; m++) {
                echelon.start(from.prime(), n);
                for (int i = 0; i < n; i++) {
                    echelon.addElement(imageOf(from, state, m, i));
                    echelon.settle();
                }
                if (echelon.rank() < n) {
                    return 100 + m;
                }
            }
            return firstNotCarried(from, to, state);
        }

        private int firstNotCarried(World from, World to, State state) {
            int n = from.size();
            for (int i = 0; i < n; i++) {
                bases[i] = imageOf(from, state, 2, i);
            }
            Sums.spread(from.prime(), n, bases, table);
            for (int i = 0; i < n; i++) {
                for (int j = 0; j < n; j++) {
                    int before = from.times(from.base(i), from.base(j));
                    int after = to.times(imageOf(from, state, 0, i), imageOf(from, state, 1, j));
                    if (before < 0 || before >= GREATEST_ORDER || table[before] != after) {
                        return 5 * i + j;
                    }
                }
            }
            return NONE;
        }

        private static int imageOf(World w, State state, int m, int i) {
            int image = state.imageAt(PLACES * m + i);
            return image == NONE ? w.base(i) : image;
        }
    }

    /** What is asked of a world's cube as forms and equations: ranks and maps that act like derivatives. */
    private static final class Forms {
        private final Echelon echelon;
        private final int[] digits = new int[PLACES];
        private final int[] firstRanks = new int[PLACES + 1];
        private final int[] secondRanks = new int[PLACES + 1];

        Forms(Echelon echelon) {
            this.echelon = echelon;
        }

        private int rankOf(World w, int side, int x) {
            int n = w.size();
            Sums.unpack(w.prime(), x, digits);
            echelon.start(w.prime(), n);
            for (int a = 0; a < n; a++) {
                for (int b = 0; b < n; b++) {
                    echelon.add(b, entry(w, side, a, b));
                }
                echelon.settle();
            }
            return echelon.rank();
        }

        private int entry(World w, int side, int a, int b) {
            int sum = 0;
            for (int s = 0; s < w.size(); s++) {
                if (digits[s] == 0) {
                    continue;
                }
                int cell = 0;
                switch (side) {
                    case LEFT: cell = w.cell(s, a, b); break;
                    case RIGHT: cell = w.cell(a, s, b); break;
                    case THIRD: cell = w.cell(a, b, s); break;
                    default: cell = w.cell(s, a, b) + w.cell(a, s, b); break;
                }
                sum += digits[s] * cell;
            }
            return sum;
        }

        /** Multiples have like ranks, so elements whose highest digit is 1 stand for all their multiples. */
        private void countRanks(World w, int side, int[] into) {
            for (int r = 0; r < into.length; r++) {
                into[r] = 0;
            }
            for (int i = 0; i < w.size(); i++) {
                for (int x = w.base(i); x < 2 * w.base(i); x++) {
                    int rank = rankOf(w, side, x);
                    if (rank >= 0 && rank < into.length) {
                        into[rank] += w.prime() - 1;
                    }
                }
            }
        }

        /** Of an element's multiples the one whose highest digit is 1 is the least. */
        int leastSingular(World w, int side) {
            for (int i = 0; i < w.size(); i++) {
                for (int x = w.base(i); x < 2 * w.base(i); x++) {
                    if (rankOf(w, side, x) < w.size()) {
                        return x;
                    }
                }
            }
            return NONE;
        }

        int howManyOfRank(World w, int side, int r) {
            countRanks(w, side, firstRanks);
            return r >= 0 && r < firstRanks.length ? firstRanks[r] : NONE;
        }

        /** (x + a)(x + a) less x x less a a is x a + a x: sums go to sums, so its rank tells. */
        int planar(World w) {
            if (w.prime() == 2) {
                return NONE;
            }
            return leastSingular(w, BOTH) == NONE ? 1 : 0;
        }

        int whatParts(World first, World second) {
            for (int side = LEFT; side <= THIRD; side++) {
                countRanks(first, side, firstRanks);
                countRanks(second, side, secondRanks);
                for (int r = 0; r <= PLACES; r++) {
                    if (firstRanks[r] != secondRanks[r]) {
                        return side;
                    }
                }
            }
            return triples(first) != triples(second) ? 3 : NONE;
        }

        int derivations(World w) {
            int block = w.size() * w.size();
            echelon.start(w.prime(), block);
            demandDerivative(w, 0, 0);
            return block - echelon.rank();
        }

        int triples(World w) {
            int block = w.size() * w.size();
            echelon.start(w.prime(), 3 * block);
            demandDerivative(w, block, 2 * block);
            return 3 * block - echelon.rank();
        }

        /** Unknowns: digit m of D(base element i) in column n i + m, those of E and G behind their starts. */
        private void demandDerivative(World w, int startOfE, int startOfG) {
            int n = w.size();
            for (int i = 0; i < n; i++) {
                for (int j = 0; j < n; j++) {
                    for (int k = 0; k < n; k++) {
                        for (int m = 0; m < n; m++) {
                            echelon.add(n * i + m, w.cell(m, j, k));
                            echelon.add(startOfE + n * j + m, w.cell(i, m, k));
                            echelon.add(startOfG + n * m + k, w.prime() - w.cell(i, j, m));
                        }
                        echelon.settle();
                    }
                }
            }
        }
    }

    /** Points and lines of a world that divides; both are numbered 0 to q q + q. */
    private static final class Plane {
        private final Study study;

        Plane(Study study) {
            this.study = study;
        }

        boolean hasPlace(World w, int place) {
            return place >= 0 && place <= last(w);
        }

        private static int last(World w) {
            return w.order() * w.order() + w.order();
        }

        boolean isOn(World w, int point, int line) {
            int q = w.order();
            int plain = q * q;
            if (q < 1) {
                return false;
            }
            if (point >= plain) {
                if (line >= plain) {
                    return point == last(w) || line == last(w);
                }
                return point - plain == line / q;
            }
            if (line >= plain) {
                return line - plain == point / q;
            }
            return point % q == height(w, line, point / q);
        }

        /** The y that a line (m, b) has above x. */
        private int height(World w, int line, int x) {
            int q = w.order();
            return q < 1 ? 0 : Sums.plus(w.prime(), w.times(line / q, x), line % q);
        }

        /** The line with slope m through a point (x, y). */
        private int through(World w, int m, int point) {
            int q = w.order();
            return q < 1 ? 0 : q * m + Sums.less(w.prime(), point % q, w.times(m, point / q));
        }

        int join(World w, int u, int v) {
            int low = Math.min(u, v);
            int high = Math.max(u, v);
            int q = w.order();
            int plain = q * q;
            if (q < 1 || low >= plain) {
                return last(w);
            }
            if (high == last(w)) {
                return plain + low / q;
            }
            if (high >= plain) {
                return through(w, high - plain, low);
            }
            if (low / q == high / q) {
                return plain + low / q;
            }
            int run = Sums.less(w.prime(), low / q, high / q);
            int rise = Sums.less(w.prime(), low % q, high % q);
            return through(w, study.divide(w, run, rise, false), low);
        }

        int meet(World w, int u, int v) {
            int low = Math.min(u, v);
            int high = Math.max(u, v);
            int q = w.order();
            int plain = q * q;
            if (q < 1 || low >= plain) {
                return last(w);
            }
            if (high == last(w)) {
                return plain + low / q;
            }
            if (high >= plain) {
                int x = high - plain;
                return q * x + height(w, low, x);
            }
            if (low / q == high / q) {
                return plain + low / q;
            }
            int slope = Sums.less(w.prime(), low / q, high / q);
            int gap = Sums.less(w.prime(), high % q, low % q);
            int x = study.divide(w, slope, gap, true);
            return q * x + height(w, low, x);
        }

        private boolean isTriangle(World w, int a, int b, int c) {
            return a != b && a != c && b != c && !isOn(w, c, join(w, a, b));
        }

        int diagonals(World w, int a, int b, int c, int d) {
            if (!hasPlace(w, a) || !hasPlace(w, b) || !hasPlace(w, c) || !hasPlace(w, d)) {
                return NONE;
            }
            if (!isTriangle(w, a, b, c) || !isTriangle(w, a, b, d)) {
                return NONE;
            }
            if (!isTriangle(w, a, c, d) || !isTriangle(w, b, c, d)) {
                return NONE;
            }
            int first = meet(w, join(w, a, b), join(w, c, d));
            int second = meet(w, join(w, a, c), join(w, b, d));
            int third = meet(w, join(w, a, d), join(w, b, c));
            return isTriangle(w, first, second, third) ? 0 : 1;
        }
    }

    /** Counts maps from one world to another, image by image, with products told as soon as they are known. */
    private static final class Search {
        static final int GREATEST_SAME = 27;
        static final int GREATEST_ISOTOPE = 16;
        private static final int PAIRS = 25;

        private int prime = 2;
        private int size = 1;
        private int order = 2;
        private int count = 0;
        private int fixed = 0;
        private final int[] sums = new int[GREATEST_SAME * GREATEST_SAME];
        private final int[] products = new int[GREATEST_SAME * GREATEST_SAME];
        private final int[] before = new int[GREATEST_SAME];
        private final int[] after = new int[GREATEST_SAME];
        private final int[] elements = new int[GREATEST_SAME];
        private final int[] codes = new int[GREATEST_SAME];
        private final int[] basis = new int[PLACES];
        private final int[] leftParent = new int[PLACES];
        private final int[] rightParent = new int[PLACES];
        private final int[] pairCodes = new int[PAIRS];
        private final int[] pairLevels = new int[PAIRS];
        private final int[] chosen = new int[PLACES];
        private final int[] images = new int[GREATEST_SAME];

        int countSame(World from, World to) {
            if (!prepare(from, to, GREATEST_SAME)) {
                return NONE;
            }
            fixed = 0;
            for (int x = 0; x < order; x++) {
                before[x] = x;
                after[x] = x;
            }
            extend(0);
            return count;
        }

        /**
         * With u = F(1), v = G(1): H(x) = F(x) v = u G(x), so H alone is left, and it carries products
         * to those of the world * with (x v) * (u y) = x y, whose unit u v is H(1).
         */
        int countIsotopes(World from, World to) {
            if (!prepare(from, to, GREATEST_ISOTOPE)) {
                return NONE;
            }
            for (int u = 1; u < order; u++) {
                for (int v = 1; v < order; v++) {
                    for (int z = 0; z < order; z++) {
                        before[products[z * order + v]] = z;
                        after[products[u * order + z]] = z;
                    }
                    fixed = products[u * order + v];
                    extend(0);
                }
            }
            return count;
        }

        private boolean prepare(World from, World to, int greatest) {
            if (from.order() > greatest || from.order() != to.order() || from.prime() != to.prime()) {
                return false;
            }
            prime = from.prime();
            size = from.size();
            order = from.order();
            count = 0;
            images[0] = 0;
            for (int x = 0; x < order; x++) {
                for (int y = 0; y < order; y++) {
                    sums[x * order + y] = Sums.plus(prime, x, y);
                    products[x * order + y] = to.times(x, y);
                }
            }
            chooseBasis(from);
            findPairs(from);
            return true;
        }

        /** A basis with as many products of earlier members as can be: their images need no search. */
        private void chooseBasis(World from) {
            for (int x = 0; x < order; x++) {
                codes[x] = NONE;
            }
            codes[0] = 0;
            elements[0] = 0;
            for (int level = 0; level < size; level++) {
                if (!chooseProduct(from, level)) {
                    chooseBase(from, level);
                }
            }
        }

        private boolean chooseProduct(World from, int level) {
            for (int i = 0; i < level; i++) {
                for (int j = 0; j < level; j++) {
                    int x = from.times(basis[i], basis[j]);
                    if (codes[x] == NONE) {
                        enlarge(level, x);
                        leftParent[level] = i;
                        rightParent[level] = j;
                        return true;
                    }
                }
            }
            return false;
        }

        private void chooseBase(World from, int level) {
            leftParent[level] = NONE;
            rightParent[level] = NONE;
            for (int i = 0; i < size; i++) {
                int x = from.base(i);
                if (codes[x] == NONE) {
                    enlarge(level, x);
                    return;
                }
            }
        }

        private void enlarge(int level, int x) {
            basis[level] = x;
            int reach = Sums.power(prime, level);
            for (int code = reach; code < reach * prime && code < order; code++) {
                int element = sums[elements[code - reach] * order + x];
                elements[code] = element;
                codes[element] = code;
            }
        }

        private void findPairs(World from) {
            for (int i = 0; i < size; i++) {
                for (int j = 0; j < size; j++) {
                    int code = codes[from.times(basis[i], basis[j])];
                    int level = Math.max(i, j);
                    while (level < size - 1 && code >= Sums.power(prime, level + 1)) {
                        level++;
                    }
                    pairCodes[PLACES * i + j] = code;
                    pairLevels[PLACES * i + j] = level;
                }
            }
        }

        private int timesThere(int x, int y) {
            return products[before[x] * order + after[y]];
        }

        private void extend(int level) {
            if (level >= size || level >= PLACES) {
                count++;
                return;
            }
            if (leftParent[level] >= 0 && rightParent[level] >= 0) {
                attempt(level, timesThere(chosen[leftParent[level]], chosen[rightParent[level]]));
                return;
            }
            if (level == 0 && fixed > 0) {
                attempt(level, fixed);
                return;
            }
            for (int x = 1; x < order; x++) {
                attempt(level, x);
            }
        }

        private void attempt(int level, int x) {
            int reach = Sums.power(prime, level);
            for (int code = 0; code < reach; code++) {
                if (images[code] == x) {
                    return;
                }
            }
            chosen[level] = x;
            for (int code = reach; code < reach * prime && code < order; code++) {
                images[code] = sums[images[code - reach] * order + x];
            }
            if (agrees(level)) {
                extend(level + 1);
            }
        }

        private boolean agrees(int level) {
            for (int i = 0; i <= level; i++) {
                for (int j = 0; j <= level; j++) {
                    int pair = PLACES * i + j;
                    if (pairLevels[pair] == level
                            && timesThere(chosen[i], chosen[j]) != images[pairCodes[pair]]) {
                        return false;
                    }
                }
            }
            return true;
        }
    }

    /** The small worlds with the unit 1 that divide; each list is searched once and its codes kept. */
    private static final class Lists {
        private static final int KINDS = 4;
        private static final int MOST = 32;

        private final Study study;
        private final World candidate = new World();
        private final boolean[] isSearched = new boolean[KINDS];
        private final int[][] found = new int[KINDS][MOST];
        private final int[][] counts = new int[KINDS][3];

        Lists(Study study) {
            this.study = study;
        }

        int count(int p, int n, int what) {
            int kind = kindOf(p, n);
            if (kind == NONE || what < 0 || what > 2) {
                return NONE;
            }
            ready(kind, p, n);
            return counts[kind][what];
        }

        boolean hasWorld(int p, int n, int i) {
            int kind = kindOf(p, n);
            if (kind == NONE || i < 0) {
                return false;
            }
            ready(kind, p, n);
            return i < counts[kind][0];
        }

        void bring(int p, int n, int i, World into) {
            int kind = kindOf(p, n);
            if (kind != NONE && i >= 0 && i < MOST) {
                fill(into, p, n, found[kind][i]);
            }
        }

        private static int kindOf(int p, int n) {
            if (p == 2 && n == 3) {
                return 1;
            }
            if (n != 2) {
                return NONE;
            }
            return p == 2 ? 0 : p == 3 ? 2 : p == 5 ? 3 : NONE;
        }

        private void ready(int kind, int p, int n) {
            if (isSearched[kind]) {
                return;
            }
            isSearched[kind] = true;
            int lastRows = power(p, n * (n - 1));
            int codes = power(p, n * (n - 1) * (n - 1));
            int code = 0;
            for (int turns = 0; turns < codes && code < codes; turns++) {
                fill(candidate, p, n, code);
                int failing = study.failing(candidate);
                if (failing == NONE) {
                    note(kind, code);
                }
                code += isFailedEarly(failing) ? lastRows : 1;
            }
        }

        private static int power(int p, int times) {
            int result = 1;
            for (int i = 0; i < times; i++) {
                result *= p;
            }
            return result;
        }

        /** An element without the highest digit fails whatever the lowest digits of the code tell. */
        private boolean isFailedEarly(int failing) {
            int order = candidate.order();
            return failing != NONE && order > 0 && failing / order < candidate.base(candidate.size() - 1);
        }

        private void note(int kind, int code) {
            int[] count = counts[kind];
            if (count[0] >= MOST) {
                return;
            }
            found[kind][count[0]] = code;
            count[0]++;
            count[1] += candidate.commutes() ? 1 : 0;
            count[2] += study.firstUnjoined(candidate) == NONE ? 1 : 0;
        }

        /** The unit tells all cells but those of i and j above 0; the code has these, the last one lowest. */
        private static void fill(World world, int p, int n, int code) {
            world.clear(p, n);
            for (int i = 0; i < n; i++) {
                world.putRow(0, i, world.base(i));
                world.putRow(i, 0, world.base(i));
            }
            int rest = code;
            for (int i = n - 1; i > 0; i--) {
                for (int j = n - 1; j > 0; j--) {
                    for (int k = n - 1; k >= 0; k--) {
                        world.put(i, j, k, rest % p);
                        rest /= p;
                    }
                }
            }
        }
    }
}
