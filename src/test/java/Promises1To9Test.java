/** Promises 1 to 9: a test for each sentence that names a case at a bound, or a call that is refused. */
public final class Promises1To9Test {
    private static final int NO = NeedNotJoin.NONE;
    private static final int[] NO_WORLDS = {Integer.MIN_VALUE, -1, 6, Integer.MAX_VALUE};
    private static final String FIELD_OF_4 = "order 2 2;field 1 1;";

    private Promises1To9Test() {
    }

    public static void main(String[] args) {
        sixWorlds();
        objectsApart();
        twentyBytes();
        highestFirst();
        howManyItHas();
        moreThan600();
        firstBytesAlone();
        hasNotSoMany();
        belowNought();
        tapeEmptyThen();
        itsOrder();
        noSuchWorld();
        staysWithAFault();
        tapeEmptyInEachCase();
        latestText();
        faultWithoutOne();
        placeWithoutOne();
        anotherFault();
        digitTold();
        digitRefused();
        cubeNone();
        ofFirstWhats();
        ofNoneOfEach();
        ofCommutesAndJoins();
        ofNucleiAndCentre();
        ofPlanarForTwo();
        ofCounts();
        ofNoneLess1();
        productNone();
        Due.end();
    }

    private static void sixWorlds() {
        Due.sentence("Promise 1", "Six worlds of noughts.");
        NeedNotJoin x = new NeedNotJoin();
        for (int w = 0; w < 6; w++) {
            Due.is("order of " + w, x.of(w, 2), 2);
            Due.is("digit of " + w, x.cube(w, 0, 0, 0), 0);
        }
        for (int w : NO_WORLDS) {
            Due.is("order of " + w, x.of(w, 2), NO - 1);
        }
        Due.is("no acts", x.look(0), 0);
        Due.is("none undone", x.look(1), 0);
        Due.is("no tape", x.end(1), false);
        Due.is("no image", x.image(false), false);
    }

    private static void objectsApart() {
        Due.sentence("Promise 1", "NeedNotJoin()");
        NeedNotJoin x = Due.told(FIELD_OF_4);
        x.map(0, 0, 3);
        x.list(5, 2, 0);
        x.image(true);
        Due.feed(x, "order 3 1;");
        NeedNotJoin y = new NeedNotJoin();
        Due.is("another one's world", y.of(0, 2), 2);
        Due.is("another one's map", y.look(10), NO);
        Due.is("another one's image", y.image(false), false);
        Due.is("another one's tape", y.end(1), false);
        Due.is("the first one's", x.of(0, 2), 4);
    }

    private static void twentyBytes() {
        Due.sentence("Promise 2", "Twenty bytes come behind the TAPE");
        NeedNotJoin x = new NeedNotJoin();
        String text = "order 3 2; field 2 1; turn 3; turn 3;   ";
        Due.is("the first", Due.feedTwenty(x, text, 0), 20);
        Due.is("the second", Due.feedTwenty(x, text, 20), 40);
        Due.is("both in their order", x.text(0), 9);
        Due.is("the field's t t", x.product(0, 3, 3), 2 + 3);
        Due.feedTwenty(x, text, 0);
        x.end(10);
        Due.is("behind a cut one", Due.feedTwenty(x, "#", 0), 30);
        x.text(0);
        Due.is("at its end", x.fault(1), 10);
    }

    private static void highestFirst() {
        Due.sentence("Promise 2", "of each number the highest first");
        NeedNotJoin x = new NeedNotJoin();
        x.feed(0x6f726465, 0x72203520, 0x333b6174, 0x20312032, 0x20332034);
        x.feed(0x20303b20, 0x20202020, 0x20202020, 0x20202020, 0x2020200a);
        Due.is("order 5 3;at 1 2 3 4 0;", x.text(0), 125);
        Due.is("its first digit", x.cube(0, 1, 2, 0), 3);
        Due.is("its second digit", x.cube(0, 1, 2, 1), 4);
        for (int at = 0; at < 20; at++) {
            int[] numbers = {0x20202020, 0x20202020, 0x20202020, 0x20202020, 0x20202020};
            numbers[at / 4] ^= 0xdf << 24 - 8 * (at % 4);
            x.feed(numbers[0], numbers[1], numbers[2], numbers[3], numbers[4]);
            Due.is("byte 255 at " + at, x.text(0), NO);
            Due.is("its place", x.fault(1), at);
        }
    }

    private static void howManyItHas() {
        Due.sentence("Promise 2", "how many it has");
        NeedNotJoin x = new NeedNotJoin();
        for (int i = 1; i <= 30; i++) {
            Due.is("feed " + i, x.feed(i, i, i, i, i), 20 * i);
        }
        x.end(7);
        Due.is("behind seven", x.feed(0, 0, 0, 0, 0), 27);
    }

    private static void moreThan600() {
        Due.sentence("Promise 2", "NONE, and nothing comes, if there would be more than 600");
        for (int left : new int[] {580, 581, 599, 600}) {
            NeedNotJoin x = new NeedNotJoin();
            Due.feed(x, ("order 3 2;" + " ".repeat(590)).substring(0, left));
            int got = x.feed(0x23232323, 0, 0, 0, 0);
            Due.is("behind " + left, got, left == 580 ? 600 : NO);
            int has = left == 580 ? 600 : left;
            Due.is("one more than it has", x.end(has + 1), false);
            Due.is("all that it has", x.end(has), true);
            Due.is("nothing came to " + left, x.text(0), left == 580 ? NO : 9);
        }
    }

    private static void firstBytesAlone() {
        Due.sentence("Promise 3", "The TAPE has its first n bytes alone: true");
        String text = "order 2 2;turn 0;###";
        NeedNotJoin x = new NeedNotJoin();
        Due.feedTwenty(x, text, 0);
        Due.is("all", x.end(20), true);
        Due.is("seventeen", x.end(17), true);
        Due.is("no more eighteen", x.end(18), false);
        Due.is("ten", x.end(10), true);
        Due.is("told by ten", x.text(0), 4);
        Due.feedTwenty(x, text, 0);
        Due.is("none", x.end(0), true);
        Due.is("none again", x.end(0), true);
        Due.is("none, so a world as at first", x.text(0), 2);
        Due.feedTwenty(x, "orders              ", 0);
        x.end(5);
        x.text(0);
        Due.is("a cut word ends there: at its end", x.fault(1), 5);
        Due.feedTwenty(x, "order 2 25          ", 0);
        x.end(9);
        x.text(0);
        Due.is("a cut number ends there: not 25", x.fault(0), 1);
        Due.is("a cut number ends there: at its end", x.fault(1), 9);
        Due.feedTwenty(x, "order 3 2; #        ", 0);
        x.end(11);
        Due.is("cut blanks end there", x.text(0), 9);
    }

    private static void hasNotSoMany() {
        Due.sentence("Promise 3", "false, changing nothing, if it has not so many");
        NeedNotJoin x = new NeedNotJoin();
        Due.is("one of none", x.end(1), false);
        Due.feedTwenty(x, "order 2 2;turn 0;   ", 0);
        for (int n : new int[] {21, 40, 600, 601, Integer.MAX_VALUE}) {
            Due.is(n + " of 20", x.end(n), false);
        }
        Due.is("all stay", x.end(20), true);
        Due.is("their text stays", x.text(0), 4);
    }

    private static void belowNought() {
        Due.sentence("Promise 3", "or n is below 0");
        NeedNotJoin x = new NeedNotJoin();
        Due.is("none, one less", x.end(-1), false);
        Due.feedTwenty(x, "order 2 2;turn 0;   ", 0);
        for (int n : new int[] {-1, -20, Integer.MIN_VALUE}) {
            Due.is("" + n, x.end(n), false);
        }
        Due.is("all stay", x.end(20), true);
        Due.is("their text stays", x.text(0), 4);
    }

    private static void tapeEmptyThen() {
        Due.sentence("Promise 4", "The TAPE, empty then, is WORLD w");
        NeedNotJoin x = new NeedNotJoin();
        Due.is("told", Due.text(x, 0, "order 3 2;"), 9);
        Due.is("no byte is left", x.end(1), false);
        Due.is("the next come first", Due.feedTwenty(x, "order 5 1;", 0), 20);
        Due.is("told by these alone", x.text(0), 5);
        Due.is("by an empty tape", x.text(0), 2);
    }

    private static void itsOrder() {
        Due.sentence("Promise 4", "is WORLD w: its ORDER");
        NeedNotJoin x = new NeedNotJoin();
        Due.is("the least, in the first world", Due.text(x, 0, ""), 2);
        Due.is("the greatest, in the last", Due.text(x, 5, "order 3 5;"), 243);
        Due.is("that world", x.of(5, 2), 243);
        Due.is("no other", x.of(4, 2), 2);
        Due.is("all of what it was is gone", Due.text(x, 5, "order 2 1;"), 2);
        Due.is("its digit", x.cube(5, 0, 0, 0), 0);
        Due.is("its size", x.cube(5, 0, 0, 1), NO);
    }

    private static void noSuchWorld() {
        Due.sentence("Promise 4", "NONE: no such one (fault() tells 0)");
        for (int w : NO_WORLDS) {
            NeedNotJoin x = Due.told(FIELD_OF_4);
            Due.fault(x, "order 9", 2, 6);
            String before = Due.state(x);
            Due.is("a good text", Due.text(x, w, "order 3 2;"), NO);
            Due.is("its fault", x.fault(0), 0);
            Due.is("its place", x.fault(1), NO);
            Due.fault(x, "order 9", 2, 6);
            Due.stays("no world " + w, x, before);
            Due.is("a bad text", Due.text(x, w, "order 9"), NO);
            Due.is("its fault", x.fault(0), 0);
            Due.is("no tape", x.text(w), NO);
        }
    }

    private static void staysWithAFault() {
        Due.sentence("Promise 4", "or a FAULT (the TEXT stays as it was");
        String[] texts = {"order 3 2;#", "order 3 2;field 2 1;turn 6;", "order", "order 3 2;at 0 0 1 1", ";"};
        for (String text : texts) {
            NeedNotJoin x = Due.told(FIELD_OF_4);
            x.digit(1, 0, 0, 0, 1);
            x.undo(true);
            Due.fault(x, "#", 1, 0);
            String before = Due.state(x);
            Due.is("fault of " + text, Due.text(x, 0, text), NO);
            Due.is("another world's", Due.text(x, 3, text), NO);
            Due.fault(x, "#", 1, 0);
            Due.stays(text, x, before);
        }
    }

    private static void tapeEmptyInEachCase() {
        Due.sentence("Promise 4", "the TAPE is empty in each case");
        NeedNotJoin x = new NeedNotJoin();
        Due.is("a fault", Due.text(x, 0, "order 9"), NO);
        Due.is("empty", x.end(1), false);
        Due.is("by the empty tape", x.text(0), 2);
        for (int w : NO_WORLDS) {
            Due.is("no such world", Due.text(x, w, "order 3 2;"), NO);
            Due.is("empty", x.end(1), false);
            Due.is("the next come first", Due.feedTwenty(x, "", 0), 20);
            Due.is("by blanks", x.text(0), 2);
        }
    }

    private static void latestText() {
        Due.sentence("Promise 5", "Of the latest text()");
        NeedNotJoin x = new NeedNotJoin();
        Due.fault(x, "order 9", 2, 6);
        Due.fault(x, "order 2 2;#", 1, 10);
        Due.is("told twice", x.fault(0), 1);
        Due.text(x, 1, "order 2 2;");
        Due.is("a good one", x.fault(0), 0);
        Due.is("its place", x.fault(1), NO);
        Due.fault(x, "order", 1, 5);
        x.digit(0, 0, 0, 0, 1);
        x.undo(true);
        x.feed(0, 0, 0, 0, 0);
        Due.is("other calls leave it", x.fault(0), 1);
        Due.is("and its place", x.fault(1), 5);
    }

    private static void faultWithoutOne() {
        Due.sentence("Promise 5", "what 0 the FAULT (0 without one)");
        NeedNotJoin x = new NeedNotJoin();
        Due.is("ahead of any text", x.fault(0), 0);
        Due.text(x, 0, "");
        Due.is("of an empty text", x.fault(0), 0);
        Due.fault(x, ";", 1, 0);
        Due.fault(x, "order 7", 2, 6);
        Due.fault(x, "order 2 2;" + "turn 0;".repeat(40), 3, 283);
        x.text(0);
        Due.is("of an empty text", x.fault(0), 0);
    }

    private static void placeWithoutOne() {
        Due.sentence("Promise 5", "1 its place (NONE)");
        NeedNotJoin x = new NeedNotJoin();
        Due.is("ahead of any text", x.fault(1), NO);
        Due.text(x, 0, "order 2 2;");
        Due.is("of a good text", x.fault(1), NO);
        Due.fault(x, "#", 1, 0);
        Due.fault(x, " ".repeat(599) + "#", 1, 599);
        Due.fault(x, " ".repeat(595) + "order", 1, 600);
        x.text(0);
        Due.is("of an empty text", x.fault(1), NO);
    }

    private static void anotherFault() {
        Due.sentence("Promise 5", "NONE for another what");
        NeedNotJoin x = new NeedNotJoin();
        Due.fault(x, "order 9", 2, 6);
        for (int what : new int[] {Integer.MIN_VALUE, -1, 2, 3, Integer.MAX_VALUE}) {
            Due.is("what " + what, x.fault(what), NO);
        }
    }

    private static void digitTold() {
        Due.sentence("Promise 6", "A DIGIT of a CUBE is told: true");
        NeedNotJoin x = Due.told("order 3 5;");
        Due.is("the first", x.digit(0, 0, 0, 0, 2), true);
        Due.is("the last", x.digit(0, 4, 4, 4, 1), true);
        Due.is("the first is there", x.cube(0, 0, 0, 0), 2);
        Due.is("the last is there", x.cube(0, 4, 4, 4), 1);
        Due.is("no other", x.product(0, 27, 242), 0);
        Due.is("to nought", x.digit(0, 0, 0, 0, 0), true);
        Due.is("nought is there", x.cube(0, 0, 0, 0), 0);
        Due.is("each an act", x.look(0), 4);
        Due.is("the last world", x.digit(5, 0, 0, 0, 1), true);
        Due.is("it divides now", x.of(5, 3), 1);
        Due.is("no more", x.digit(5, 0, 0, 0, 0) ? x.of(5, 3) : NO, 0);
    }

    private static void digitRefused() {
        Due.sentence("Promise 6", "false if one can't be");
        NeedNotJoin x = Due.told("order 3 2;at 1 1 2 2;");
        x.digit(1, 0, 0, 0, 1);
        x.undo(true);
        String before = Due.state(x);
        for (int w : NO_WORLDS) {
            Due.is("world " + w, x.digit(w, 0, 0, 0, 1), false);
        }
        for (int bad : new int[] {Integer.MIN_VALUE, -1, 2, 4, 5, Integer.MAX_VALUE}) {
            Due.is("i " + bad, x.digit(0, bad, 0, 0, 1), false);
            Due.is("j " + bad, x.digit(0, 0, bad, 0, 1), false);
            Due.is("k " + bad, x.digit(0, 0, 0, bad, 1), false);
        }
        for (int bad : new int[] {Integer.MIN_VALUE, -1, 3, 4, Integer.MAX_VALUE}) {
            Due.is("digit " + bad, x.digit(0, 1, 1, 1, bad), false);
        }
        Due.stays("none of these", x, before);
    }

    private static void cubeNone() {
        Due.sentence("Promise 7", "NONE if one can't be");
        NeedNotJoin x = Due.told("order 3 5;at 0 0 1 0 0 0 0;at 4 4 0 0 0 0 2;");
        Due.is("the first", x.cube(0, 0, 0, 0), 1);
        Due.is("the last", x.cube(0, 4, 4, 4), 2);
        for (int bad : new int[] {Integer.MIN_VALUE, -1, 5, 25, Integer.MAX_VALUE}) {
            Due.is("i " + bad, x.cube(0, bad, 0, 0), NO);
            Due.is("j " + bad, x.cube(0, 0, bad, 0), NO);
            Due.is("k " + bad, x.cube(0, 0, 0, bad), NO);
        }
        for (int w : NO_WORLDS) {
            Due.is("world " + w, x.cube(w, 0, 0, 0), NO);
        }
        Due.is("of a smaller one", x.cube(1, 1, 0, 0), NO);
    }

    private static void ofFirstWhats() {
        Due.sentence("Promise 8", "Of a WORLD what 0 p, 1 n, 2 ORDER, 3 1 if it DIVIDES, else 0");
        NeedNotJoin x = Due.told("order 3 5;field 2 1 0 0 0;");
        Due.text(x, 5, "order 5 3;");
        int[] first = {3, 5, 243, 1, NO, 1, 1, 1, NO, 243, 243, 243, 243, 2, 1, 122, 0, 10};
        int[] last = {5, 3, 125, 0, 126, NO, 1, 1, NO, 125, 125, 125, 125, 1, 0, 1, 9, 27};
        int[] least = {2, 1, 2, 0, 3, NO, 1, 1, NO, 2, 2, 2, 2, 1, NO, 1, 1, 3};
        for (int what = 0; what < 18; what++) {
            Due.is("of the greatest field, what " + what, x.of(0, what), first[what]);
            Due.is("of noughts of 125, what " + what, x.of(5, what), last[what]);
            Due.is("of a world as at first, what " + what, x.of(1, what), least[what]);
        }
    }

    private static void ofNoneOfEach() {
        Due.sentence("Promise 8", "4 the first couple that fails (NONE), 5 the UNIT (NONE)");
        NeedNotJoin x = Due.told(FIELD_OF_4);
        Due.text(x, 1, "order 2 2;at 0 0 0 1;at 1 0 1 0;");
        Due.is("no couple fails", x.of(0, 4), NO);
        Due.is("a couple fails", x.of(1, 4), 4 + 2);
        Due.is("a unit", x.of(0, 5), 1);
        Due.is("no unit", x.of(1, 5), NO);
    }

    private static void ofCommutesAndJoins() {
        Due.sentence("Promise 8", "6 1 if it COMMUTES, 7 1 if it JOINS, 8 the first that fail (NONE)");
        int[][] due = {{1, 1, NO}, {0, 0, 0}, {0, 1, NO}, {1, 0, 1}, {0, 0, 124}};
        String[] texts = {FIELD_OF_4, "order 2 2;at 0 0 0 1;at 1 0 1 0;", "order 2 2;at 0 0 1 0;at 0 1 0 1;",
            "order 2 2;at 0 0 0 1;at 1 1 1 0;", "order 2 5;at 4 4 1 0 0 0 0;at 0 4 0 1 0 0 0;"};
        for (int i = 0; i < texts.length; i++) {
            NeedNotJoin x = Due.told(texts[i]);
            for (int what = 6; what < 9; what++) {
                Due.is("what " + what + " of " + texts[i], x.of(0, what), due[i][what - 6]);
            }
        }
    }

    private static void ofNucleiAndCentre() {
        Due.sentence("Promise 8", "9, 10, 11 the left, middle, right NUCLEUS, 12 the CENTRE");
        int[][] due = {{4, 8, 16, 2}, {1, 1, 1, 1}, {4, 4, 4, 1}, {4, 4, 4, 4}};
        String[] texts = {"order 2 5;at 0 3 0 0 0 0 1;at 1 1 0 1 0 0 0;at 2 1 0 1 0 0 0;at 2 3 0 0 0 0 1;at 3 1 0 0 0 1 0;",
            "order 2 2;at 0 0 0 1;at 0 1 1 0;at 1 0 1 0;", "order 2 2;at 0 0 1 0;at 0 1 0 1;", FIELD_OF_4};
        for (int i = 0; i < texts.length; i++) {
            NeedNotJoin x = Due.told(texts[i]);
            for (int what = 9; what < 13; what++) {
                Due.is("what " + what + " of " + texts[i], x.of(0, what), due[i][what - 9]);
            }
        }
    }

    private static void ofPlanarForTwo() {
        Due.sentence("Promise 8", "14 1 if it is PLANAR (NONE for p 2)");
        Due.is("p 2", Due.told(FIELD_OF_4).of(0, 14), NO);
        Due.is("p 2, size 5", Due.told("order 2 5;field 1 0 1 0 0;").of(0, 14), NO);
        Due.is("p 3", Due.told("order 3 1;field 0;").of(0, 14), 1);
        Due.is("p 5", Due.told("order 5 1;field 0;").of(0, 14), 1);
        Due.is("p 5, noughts", Due.told("order 5 1;").of(0, 14), 0);
    }

    private static void ofCounts() {
        Due.sentence("Promise 8", "15 SQUARES, 16 DERIVATIONS, 17 TRIPLES");
        int[][] due = {{1, 1, 25, 75}, {2, 2, 0, 2}, {32, 32, 0, 10}, {2, 122, 0, 10}};
        String[] texts = {"order 3 5;", "order 2 1;at 0 0 1;", "order 2 5;at 0 0 1 0 0 0 0;at 1 1 0 1 0 0 0;"
            + "at 2 2 0 0 1 0 0;at 3 3 0 0 0 1 0;at 4 4 0 0 0 0 1;", "order 3 5;field 2 1 0 0 0;"};
        int[] whats = {13, 15, 16, 17};
        for (int i = 0; i < texts.length; i++) {
            NeedNotJoin x = Due.told(texts[i]);
            for (int at = 0; at < 4; at++) {
                Due.is("what " + whats[at] + " of " + texts[i], x.of(0, whats[at]), due[i][at]);
            }
        }
    }

    private static void ofNoneLess1() {
        Due.sentence("Promise 8", "NONE - 1 if there is none such, or another what");
        NeedNotJoin x = Due.told(FIELD_OF_4);
        for (int what : new int[] {Integer.MIN_VALUE, -2, -1, 18, 19, Integer.MAX_VALUE}) {
            Due.is("what " + what, x.of(0, what), NO - 1);
        }
        for (int w : NO_WORLDS) {
            for (int what = -1; what <= 18; what++) {
                Due.is("world " + w, x.of(w, what), NO - 1);
            }
        }
    }

    private static void productNone() {
        Due.sentence("Promise 9", "PRODUCT x y; NONE if one can't be");
        NeedNotJoin x = Due.told("order 3 5;field 2 1 0 0 0;");
        Due.is("the last by one", x.product(0, 242, 1), 242);
        Due.is("nought by the last", x.product(0, 0, 242), 0);
        for (int bad : new int[] {Integer.MIN_VALUE, -1, 243, 244, Integer.MAX_VALUE}) {
            Due.is("first " + bad, x.product(0, bad, 0), NO);
            Due.is("second " + bad, x.product(0, 1, bad), NO);
        }
        for (int w : NO_WORLDS) {
            Due.is("world " + w, x.product(w, 0, 0), NO);
        }
        Due.is("of a smaller one", x.product(1, 1, 2), NO);
    }
}
