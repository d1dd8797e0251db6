import java.util.ArrayList;
import java.util.List;
import java.util.Random;

/** Random texts, whole and spoilt, beside a second reader that looks at a list of tokens. */
public final class TextsTest {
    private static final int NO = NeedNotJoin.NONE;

    private TextsTest() {
    }

    /** The kinds of a token: w word, n number, ; and ? what can't stand anywhere. */
    private static final class Token {
        final char kind;
        final String text;
        final int place;

        Token(char kind, String text, int place) {
            this.kind = kind;
            this.text = text;
            this.place = place;
        }
    }

    private static final class Fault extends RuntimeException {
        private static final long serialVersionUID = 1;
        final int kind;
        final int place;

        Fault(int kind, int place) {
            this.kind = kind;
            this.place = place;
        }
    }

    private static List<Token> tokens;
    private static int at;
    private static int length;

    public static void main(String[] args) {
        Random random = new Random(11);
        int faults = 0;
        for (int round = 0; round < 20000; round++) {
            String text = spoil(whole(random), random, random.nextInt(4));
            text = text.length() > 600 ? text.substring(0, 600) : text;
            faults += check(text) ? 0 : 1;
        }
        System.out.println(faults + " of 20000 texts with a fault");
        Due.end();
    }

    private static String whole(Random random) {
        int p = new int[] {2, 3, 5, 4}[random.nextInt(20) == 0 ? 3 : random.nextInt(3)];
        int n = 1 + random.nextInt(random.nextInt(10) == 0 ? 7 : p == 5 ? 3 : 5);
        StringBuilder text = new StringBuilder("order " + p + " " + n + ";");
        int many = random.nextInt(random.nextInt(30) == 0 ? 60 : 6);
        for (int i = 0; i < many; i++) {
            int kind = random.nextInt(4);
            if (many > 10) {
                kind = 3;
            }
            if (kind == 0) {
                text.append(" field").append(numbers(random, n, p)).append(';');
            } else if (kind == 1) {
                text.append("twist ").append(random.nextInt(9)).append(numbers(random, 2, 5)).append(';');
            } else if (kind == 2) {
                text.append("\nat").append(numbers(random, 2, n)).append(numbers(random, n, p)).append(" ;");
            } else {
                text.append("turn").append(numbers(random, 1, 6)).append("; ");
            }
        }
        return text.toString();
    }

    private static String numbers(Random random, int many, int below) {
        StringBuilder text = new StringBuilder();
        for (int i = 0; i < many; i++) {
            text.append(' ').append(random.nextInt(random.nextInt(40) == 0 ? 12000 : below));
        }
        return text.toString();
    }

    private static String spoil(String text, Random random, int times) {
        StringBuilder spoilt = new StringBuilder(text);
        String signs = "  ;;0123456789order field twist at turn#Z";
        for (int i = 0; i < times; i++) {
            int place = random.nextInt(spoilt.length() + 1);
            char sign = random.nextInt(12) == 0 ? (char) random.nextInt(256) : signs.charAt(random.nextInt(signs.length()));
            int way = random.nextInt(3);
            if (way == 0) {
                spoilt.insert(place, sign);
            } else if (place < spoilt.length() && way == 1) {
                spoilt.setCharAt(place, sign);
            } else if (place < spoilt.length()) {
                spoilt.deleteCharAt(place);
            }
        }
        return spoilt.toString();
    }

    private static boolean check(String text) {
        NeedNotJoin x = new NeedNotJoin();
        int kind = 0;
        int place = NO;
        int order = NO;
        try {
            order = read(text);
        } catch (Fault fault) {
            kind = fault.kind;
            place = fault.place;
        }
        Due.is("text " + text, Due.text(x, 3, text), order);
        Due.is("fault of " + text, x.fault(0), kind);
        Due.is("its place in " + text, x.fault(1), place);
        Due.is("order after " + text, x.of(3, 2), order == NO ? 2 : order);
        return kind == 0;
    }

    private static void cut(String text) {
        tokens = new ArrayList<>();
        length = text.length();
        at = 0;
        int i = 0;
        while (i < length) {
            int start = i;
            String signs = "";
            while (i < length && ("" + text.charAt(i)).matches("[A-Za-z]")) {
                i++;
            }
            if (i > start) {
                tokens.add(new Token('w', text.substring(start, i), start));
                continue;
            }
            while (i < length && ("" + text.charAt(i)).matches("[0-9]")) {
                signs += text.charAt(i++);
            }
            if (i > start) {
                tokens.add(new Token(signs.length() > 4 ? '?' : 'n', signs, start));
                continue;
            }
            char sign = text.charAt(i++);
            if (sign != ' ' && sign != '\n') {
                tokens.add(new Token(sign == ';' ? ';' : '?', "" + sign, start));
            }
        }
    }

    private static Token next(char kind) {
        if (at >= tokens.size()) {
            throw new Fault(1, length);
        }
        Token token = tokens.get(at++);
        if (token.kind != kind) {
            throw new Fault(1, token.place);
        }
        return token;
    }

    private static int number(int least, int bound) {
        Token token = next('n');
        int value = Integer.parseInt(token.text);
        if (value < least || value >= bound) {
            throw new Fault(2, token.place);
        }
        return value;
    }

    private static int read(String text) {
        cut(text);
        int p = 2;
        int n = 1;
        boolean field = false;
        for (int statement = 0; at < tokens.size(); statement++) {
            Token word = next('w');
            boolean first = word.text.equals("order");
            boolean known = first || "field twist at turn".contains(word.text) && word.text.length() > 1
                && List.of("field", "twist", "at", "turn").contains(word.text);
            if (!known || first != (statement == 0) || word.text.equals("twist") && !field) {
                throw new Fault(1, word.place);
            }
            if (statement == 40) {
                throw new Fault(3, word.place);
            }
            if (first) {
                p = number(2, 6);
                if (p == 4) {
                    throw new Fault(2, tokens.get(at - 1).place);
                }
                n = number(1, p == 5 ? 4 : 6);
            } else if (word.text.equals("field")) {
                several(n, p);
                field = true;
            } else if (word.text.equals("twist")) {
                number(0, (int) Math.round(Math.pow(p, n)));
                several(2, 5);
            } else if (word.text.equals("at")) {
                several(2, n);
                several(n, p);
            } else {
                number(0, 6);
            }
            next(';');
        }
        return (int) Math.round(Math.pow(p, n));
    }

    private static void several(int many, int bound) {
        for (int i = 0; i < many; i++) {
            number(0, bound);
        }
    }
}
