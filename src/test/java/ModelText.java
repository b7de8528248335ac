import java.util.ArrayList;
import java.util.List;

/** Reads a TEXT for the Model: all tokens first, then trees. */
final class ModelText {
    private static final List<String> LAW_WORDS =
            List.of("reader", "soft", "tired", "had", "grief", "joke", "weight", "with", "day", "mood");
    private static final List<String> ORDER_WORDS = List.of("day", "letters", "office", "done", "paid");
    private static final long MOST = 1_000_000_000L;

    private final boolean laws;
    private final List<String> tokens = new ArrayList<>();
    private final List<Integer> places = new ArrayList<>();
    private int next;
    private int parts;
    private int open;

    ModelText(List<Integer> bytes, boolean laws) {
        this.laws = laws;
        StringBuilder text = new StringBuilder();
        for (int b : bytes) {
            text.append((char) b);
        }
        java.util.regex.Matcher m = java.util.regex.Pattern.compile("[a-z]+|[0-9]+|[^ ]", java.util.regex.Pattern.DOTALL)
                .matcher(text);
        while (m.find()) {
            tokens.add(m.group());
            places.add(m.start());
        }
        tokens.add("");
        places.add(bytes.size());
    }

    private String peek() {
        return tokens.get(next);
    }

    private boolean accept(String token) {
        if (peek().equals(token)) {
            next++;
            return true;
        }
        return false;
    }

    private void expect(boolean so) throws Model.Fault {
        if (!so) {
            throw new Model.Fault(places.get(next));
        }
    }

    List<Model.Clause> clauses() throws Model.Fault {
        List<Model.Clause> all = new ArrayList<>();
        do {
            expect(all.size() < 12);
            all.add(laws ? lawClause() : orderClause());
        } while (accept(";"));
        expect(peek().isEmpty());
        return all;
    }

    private Model.Clause lawClause() throws Model.Fault {
        Model.Clause c = new Model.Clause();
        c.kind = peek();
        if (accept("weeps") || accept("tires") || accept("rests")) {
            c.sum = sum();
        } else {
            expect(accept("laughs") || accept("bars"));
        }
        c.test = accept("if") ? test() : null;
        return c;
    }

    private Model.Clause orderClause() throws Model.Fault {
        Model.Clause c = new Model.Clause();
        c.kind = peek();
        if (accept("hand")) {
            c.sum = sum();
            c.with = accept("with") ? sum() : null;
        } else {
            expect(accept("pass"));
        }
        if (accept("times")) {
            c.times = number(1, 20);
        }
        c.test = accept("if") ? test() : null;
        return c;
    }

    private int number(int least, int most) throws Model.Fault {
        expect(!peek().isEmpty() && peek().charAt(0) >= '0' && peek().charAt(0) <= '9');
        java.math.BigInteger value = new java.math.BigInteger(peek());
        expect(value.bitLength() < 31 && value.intValue() >= least && value.intValue() <= most);
        next++;
        return value.intValue();
    }

    private Model.Test test() throws Model.Fault {
        Model.Test left = both();
        if (!accept("or")) {
            return left;
        }
        Model.Test right = test();
        return w -> left.in(w) || right.in(w);
    }

    private Model.Test both() throws Model.Fault {
        Model.Test left = plain();
        if (!accept("and")) {
            return left;
        }
        Model.Test right = both();
        return w -> left.in(w) && right.in(w);
    }

    private Model.Test plain() throws Model.Fault {
        if (accept("not")) {
            Model.Test inner = plain();
            return w -> !inner.in(w);
        }
        if (peek().equals("(")) {
            expect(++open <= 8);
            next++;
            Model.Test inner = test();
            expect(accept(")"));
            open--;
            return inner;
        }
        Model.Value left = sum();
        String sign = peek();
        expect(accept("<") || accept(">") || accept("="));
        Model.Value right = sum();
        return w -> {
            long a = left.in(w);
            long b = right.in(w);
            return sign.equals("<") ? a < b : sign.equals(">") ? a > b : a == b;
        };
    }

    private Model.Value sum() throws Model.Fault {
        Model.Value all = term();
        while (peek().equals("+") || peek().equals("-")) {
            all = joined(tokens.get(next++), all, term());
        }
        return all;
    }

    private Model.Value term() throws Model.Fault {
        Model.Value all = part();
        while (peek().equals("*") || peek().equals("/") || peek().equals("%")) {
            all = joined(tokens.get(next++), all, part());
        }
        return all;
    }

    private static Model.Value joined(String sign, Model.Value left, Model.Value right) {
        return w -> {
            long a = left.in(w);
            long b = right.in(w);
            if (b == 0 && (sign.equals("/") || sign.equals("%"))) {
                throw new Model.Broken();
            }
            long v = sign.equals("+") ? a + b : sign.equals("-") ? a - b : sign.equals("*") ? a * b
                    : sign.equals("/") ? a / b : a % b;
            if (v > MOST || v < -MOST) {
                throw new Model.Broken();
            }
            return v;
        };
    }

    private Model.Value part() throws Model.Fault {
        if (peek().equals("[")) {
            expect(++open <= 8);
            next++;
            Model.Value inner = sum();
            expect(accept("]"));
            open--;
            return inner;
        }
        expect(++parts <= 50);
        String word = peek();
        if (laws ? LAW_WORDS.contains(word) : ORDER_WORDS.contains(word)) {
            next++;
            return w -> w.get(word);
        }
        if (!laws && (accept("tired") || accept("owed"))) {
            String whole = word + " " + number(0, 7);
            return w -> w.get(whole);
        }
        int value = number(0, 1000);
        return w -> value;
    }
}
