/** Counts answers that are not as due, sentence by sentence, and puts texts on a tape. */
final class Due {
    private static final int MOST_SHOWN = 40;

    private static int asked = 0;
    private static int wrong = 0;
    private static int sentences = 0;
    private static int askedBefore = 0;
    private static String sentence = "";

    private Due() {
    }

    /** All that is asked from here on holds this sentence of the document; one that asks nothing is wrong. */
    static void sentence(String where, String words) {
        closeSentence();
        sentences++;
        askedBefore = asked;
        sentence = where + ", '" + words + "': ";
    }

    private static void closeSentence() {
        if (sentences > 0 && asked == askedBefore) {
            is("answers asked", 0, 1);
        }
    }

    static void is(String what, long got, long want) {
        asked++;
        if (got != want) {
            wrong++;
            if (wrong <= MOST_SHOWN) {
                System.out.println(sentence + what + " answered " + got + ", due is " + want);
            }
        }
    }

    static void is(String what, boolean got, boolean want) {
        is(what, got ? 1 : 0, want ? 1 : 0);
    }

    static void feed(NeedNotJoin x, String text) {
        int at = 0;
        int had = x.end(0) ? 0 : -1;
        while (at < text.length()) {
            had = feedTwenty(x, text, at);
            at += 20;
        }
        if (!x.end(text.length())) {
            throw new IllegalStateException("a text of " + text.length() + " bytes, the tape has " + had);
        }
    }

    /** One call of feed(): twenty signs of the text from a place on, blanks behind its end. */
    static int feedTwenty(NeedNotJoin x, String text, int from) {
        int[] numbers = new int[5];
        for (int i = 0; i < 20; i++) {
            int sign = from + i < text.length() ? text.charAt(from + i) : ' ';
            numbers[i / 4] = numbers[i / 4] << 8 | sign & 255;
        }
        return x.feed(numbers[0], numbers[1], numbers[2], numbers[3], numbers[4]);
    }

    static int text(NeedNotJoin x, int w, String text) {
        feed(x, text);
        return x.text(w);
    }

    /** World 0 of a new object, told by a text without a fault. */
    static NeedNotJoin told(String text) {
        NeedNotJoin x = new NeedNotJoin();
        is("told " + text, text(x, 0, text) > 0, true);
        return x;
    }

    /** A text that world 0 of an object refuses: its fault and the fault's place. */
    static void fault(NeedNotJoin x, String text, int kind, int place) {
        is("text " + text, text(x, 0, text), NeedNotJoin.NONE);
        is("fault of " + text, x.fault(0), kind);
        is("its place in " + text, x.fault(1), place);
    }

    /** All that can be asked of an object without changing it, the tape alone left out. */
    static String state(NeedNotJoin x) {
        StringBuilder state = new StringBuilder();
        for (int w = 0; w < 6; w++) {
            int n = x.of(w, 1);
            state.append(x.of(w, 0)).append(' ').append(n).append(':');
            for (int at = 0; at < n * n * n; at++) {
                state.append(x.cube(w, at / n / n, at / n % n, at % n));
            }
            state.append(' ');
        }
        state.append(x.look(0)).append(' ').append(x.look(1));
        for (int at = 10; at < 25; at++) {
            state.append(' ').append(x.look(at));
        }
        return state.append(' ').append(x.fault(0)).append(' ').append(x.fault(1)).toString();
    }

    static void stays(String what, NeedNotJoin x, String before) {
        is(what + " changes nothing", state(x).equals(before), true);
    }

    static void end() {
        closeSentence();
        System.out.println((sentences == 0 ? "" : sentences + " sentences, ")
            + asked + " answers asked, " + wrong + " not as due");
        if (wrong != 0) {
            System.exit(1);
        }
    }
}
