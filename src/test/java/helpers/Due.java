/** Counts answers that are not as due, and puts texts on a tape. */
final class Due {
    private static int asked = 0;
    private static int wrong = 0;

    private Due() {
    }

    static void is(String what, long got, long want) {
        asked++;
        if (got != want) {
            wrong++;
            if (wrong <= 40) {
                System.out.println(what + " answered " + got + ", due is " + want);
            }
        }
    }

    static void is(String what, boolean got, boolean want) {
        is(what, got ? 1 : 0, want ? 1 : 0);
    }

    static void feed(NeedNotJoin x, String text) {
        int at = 0;
        int had = x.end(0) ? 0 : -1;
        while (at < text.length()) {
            int[] numbers = new int[5];
            for (int i = 0; i < 20; i++) {
                int sign = at + i < text.length() ? text.charAt(at + i) : ' ';
                numbers[i / 4] = numbers[i / 4] << 8 | sign & 255;
            }
            had = x.feed(numbers[0], numbers[1], numbers[2], numbers[3], numbers[4]);
            at += 20;
        }
        if (!x.end(text.length())) {
            throw new IllegalStateException("a text of " + text.length() + " bytes, the tape has " + had);
        }
    }

    static int text(NeedNotJoin x, int w, String text) {
        feed(x, text);
        return x.text(w);
    }

    static void end() {
        System.out.println(asked + " answers asked, " + wrong + " not as due");
        if (wrong != 0) {
            System.exit(1);
        }
    }
}
