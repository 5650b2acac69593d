import java.util.ArrayList;
import java.util.List;
import java.util.Map;
import java.util.Set;
import java.util.function.ToLongFunction;

// A second, slow reading of the texts, by signs cut out first and by functions, to compare the program with.
final class PlainLaw {
    static final class Fault extends RuntimeException {
        private static final long serialVersionUID = 1L;
        final int number;

        Fault(int place, int kind) {
            super(null, null, false, false);
            number = 1 + 8 * place + kind;
        }
    }

    record Sign(String text, int place) {
    }

    record Rule(String kind, ToLongFunction<Map<String, Long>> sum, ToLongFunction<Map<String, Long>> test) {
    }

    private static final Set<String> WORDS = Set.of("minute", "seen", "was", "want", "heat", "pull", "left", "long");

    private final List<Sign> signs = new ArrayList<>();
    private final boolean furnace;
    private final List<Rule> rules = new ArrayList<>();
    private final Map<String, Integer> numbers = new java.util.HashMap<>();
    private int next = 0;
    private int told = 0;

    PlainLaw(int[] bytes, boolean furnace) {
        this.furnace = furnace;
        cutSigns(bytes);
        for (int n = 1;; n++) {
            clause(n);
            if (isNext("")) {
                return;
            }
            take(";");
        }
    }

    long first(String kind, Map<String, Long> words, long otherwise) {
        for (Rule rule : rules) {
            if (rule.kind.equals(kind) && rule.test.applyAsLong(words) != 0) {
                return rule.sum.applyAsLong(words);
            }
        }
        return otherwise;
    }

    int number(String kind) {
        return numbers.getOrDefault(kind, 0);
    }

    private void cutSigns(int[] bytes) {
        StringBuilder all = new StringBuilder();
        for (int b : bytes) {
            all.append((char) b);
        }
        String text = all.toString();
        java.util.regex.Matcher m = java.util.regex.Pattern.compile(" +|[a-z]+|[0-9]+|<=|>=|[\\s\\S]").matcher(text);
        while (m.find()) {
            if (m.group().charAt(0) != ' ') {
                signs.add(new Sign(m.group(), m.start()));
            }
        }
        signs.add(new Sign("", text.length()));
    }

    private boolean isNext(String text) {
        return signs.get(next).text.equals(text);
    }

    private boolean isNextOf(String... texts) {
        return List.of(texts).contains(signs.get(next).text);
    }

    private Fault out(int kind) {
        return new Fault(signs.get(next).place, kind);
    }

    private String take() {
        return signs.get(next++).text;
    }

    private void take(String text) {
        if (!isNext(text)) {
            throw out(0);
        }
        next++;
    }

    private void clause(int n) {
        if (!(furnace ? isNextOf("wide", "swirl", "late", "gives") : isNextOf("pull", "heat"))) {
            throw out(0);
        }
        if (n > 12 || numbers.containsKey(signs.get(next).text)) {
            throw out(4);
        }
        String kind = take();
        if (!furnace || kind.equals("wide")) {
            ToLongFunction<Map<String, Long>> sum = sum(0);
            ToLongFunction<Map<String, Long>> test = words -> 1;
            if (isNext("if")) {
                take();
                test = test(0);
            }
            rules.add(new Rule(kind, sum, test));
        } else {
            numbers.put(kind, number(kind.equals("swirl") ? 99 : kind.equals("late") ? 9 : 9999));
        }
    }

    private int number(int most) {
        String text = signs.get(next).text;
        if (!text.matches("[0-9]+")) {
            throw out(0);
        }
        if (text.length() > 5 || Integer.parseInt(text) > most) {
            throw out(1);
        }
        next++;
        return Integer.parseInt(text);
    }

    private ToLongFunction<Map<String, Long>> test(int within) {
        ToLongFunction<Map<String, Long>> left = part(within);
        while (isNext("or")) {
            take();
            ToLongFunction<Map<String, Long>> before = left;
            ToLongFunction<Map<String, Long>> right = part(within);
            left = words -> before.applyAsLong(words) != 0 || right.applyAsLong(words) != 0 ? 1 : 0;
        }
        return left;
    }

    private ToLongFunction<Map<String, Long>> part(int within) {
        ToLongFunction<Map<String, Long>> left = fact(within);
        while (isNext("and")) {
            take();
            ToLongFunction<Map<String, Long>> before = left;
            ToLongFunction<Map<String, Long>> right = fact(within);
            left = words -> before.applyAsLong(words) != 0 && right.applyAsLong(words) != 0 ? 1 : 0;
        }
        return left;
    }

    private ToLongFunction<Map<String, Long>> fact(int within) {
        if (isNextOf("not", "[") && within == 10) {
            throw out(2);
        }
        if (isNext("not")) {
            take();
            ToLongFunction<Map<String, Long>> inner = fact(within + 1);
            return words -> inner.applyAsLong(words) != 0 ? 0 : 1;
        }
        if (isNext("[")) {
            take();
            ToLongFunction<Map<String, Long>> inner = test(within + 1);
            take("]");
            return inner;
        }
        ToLongFunction<Map<String, Long>> left = sum(within);
        if (!isNextOf("<", "<=", "=", ">=", ">")) {
            throw out(0);
        }
        count();
        String sign = take();
        ToLongFunction<Map<String, Long>> right = sum(within);
        return words -> holds(sign, Long.compare(left.applyAsLong(words), right.applyAsLong(words))) ? 1 : 0;
    }

    private static boolean holds(String sign, int compared) {
        return sign.contains("<") && compared < 0 || sign.contains("=") && compared == 0 || sign.contains(">") && compared > 0;
    }

    private void count() {
        if (++told > 60) {
            throw out(3);
        }
    }

    private ToLongFunction<Map<String, Long>> sum(int within) {
        ToLongFunction<Map<String, Long>> left = term(within);
        while (isNextOf("+", "-")) {
            boolean plus = take().equals("+");
            ToLongFunction<Map<String, Long>> before = left;
            ToLongFunction<Map<String, Long>> right = term(within);
            left = words -> before.applyAsLong(words) + (plus ? 1 : -1) * right.applyAsLong(words);
        }
        return left;
    }

    private ToLongFunction<Map<String, Long>> term(int within) {
        ToLongFunction<Map<String, Long>> left = value(within);
        while (isNextOf("*", "/")) {
            boolean times = take().equals("*");
            ToLongFunction<Map<String, Long>> before = left;
            ToLongFunction<Map<String, Long>> right = value(within);
            left = words -> {
                long a = before.applyAsLong(words);
                long b = right.applyAsLong(words);
                return times ? a * b : b == 0 ? 0 : a / b;
            };
        }
        return left;
    }

    private ToLongFunction<Map<String, Long>> value(int within) {
        if (isNext("(")) {
            if (within == 10) {
                throw out(2);
            }
            take();
            ToLongFunction<Map<String, Long>> inner = sum(within + 1);
            take(")");
            return inner;
        }
        String text = signs.get(next).text;
        if (WORDS.contains(text) || furnace && text.equals("wide")) {
            count();
            take();
            return words -> words.get(text);
        }
        if (text.length() <= 5 && text.matches("[0-9]+")) {
            count();
        }
        long n = number(99999);
        return words -> n;
    }
}
