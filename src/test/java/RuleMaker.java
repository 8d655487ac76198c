import java.util.Random;

/** Makes RULES by chance, as a text and as a tree that tells their WORTH. */
final class RuleMaker {
    interface Sum {
        long of(int[] letters);
    }

    interface Truth {
        boolean of(int[] letters);
    }

    private final Random random;
    private final StringBuilder text = new StringBuilder();

    RuleMaker(long seed) {
        random = new Random(seed);
    }

    String text() {
        return text.toString();
    }

    private void put(String signs) {
        text.append(random.nextInt(12) == 0 ? " " : "").append(signs).append(random.nextInt(12) == 0 ? " " : "");
    }

    private static long bound(long v) {
        return Math.max(-1000000, Math.min(1000000, v));
    }

    PlainKerb.Worth rule() {
        int clauses = 1 + random.nextInt(3);
        Truth[] truths = new Truth[clauses];
        Sum[] sums = new Sum[clauses];
        for (int i = 0; i < clauses; i++) {
            if (i > 0) {
                put(";");
            }
            put("y");
            put(":");
            truths[i] = letters -> true;
            if (random.nextInt(3) > 0) {
                truths[i] = condition(0);
                put("?");
            }
            sums[i] = sum(0);
        }
        return (p, l, b, a, n) -> {
            int[] letters = {p, l, b, a, n};
            for (int i = 0; i < clauses; i++) {
                if (truths[i].of(letters)) {
                    return (int) sums[i].of(letters);
                }
            }
            return 0;
        };
    }

    private Truth condition(int depth) {
        Truth one = truth(depth);
        while (random.nextInt(4) == 0) {
            put("|");
            Truth left = one;
            Truth right = truth(depth);
            one = letters -> left.of(letters) || right.of(letters);
        }
        return one;
    }

    private Truth truth(int depth) {
        Truth one = unit(depth);
        while (random.nextInt(4) == 0) {
            put("&");
            Truth left = one;
            Truth right = unit(depth);
            one = letters -> left.of(letters) && right.of(letters);
        }
        return one;
    }

    private Truth unit(int depth) {
        int kind = depth < 6 ? random.nextInt(6) : 5;
        if (kind == 0) {
            put("!");
            Truth inner = unit(depth + 1);
            return letters -> !inner.of(letters);
        }
        if (kind == 1) {
            put("(");
            Truth inner = condition(depth + 1);
            put(")");
            return inner;
        }
        Sum left = sum(depth);
        int sign = random.nextInt(3);
        put("=<>".substring(sign, sign + 1));
        Sum right = sum(depth);
        return letters -> {
            int order = Long.compare(left.of(letters), right.of(letters));
            return sign == 0 ? order == 0 : sign == 1 ? order < 0 : order > 0;
        };
    }

    private Sum sum(int depth) {
        Sum one = term(depth);
        while (random.nextInt(3) == 0) {
            boolean plus = random.nextBoolean();
            put(plus ? "+" : "-");
            Sum left = one;
            Sum right = term(depth);
            one = letters -> bound(left.of(letters) + (plus ? right.of(letters) : -right.of(letters)));
        }
        return one;
    }

    private Sum term(int depth) {
        Sum one = atom(depth);
        while (random.nextInt(4) == 0) {
            boolean times = random.nextBoolean();
            put(times ? "*" : "/");
            Sum left = one;
            Sum right = atom(depth);
            one = letters -> {
                long l = left.of(letters);
                long r = right.of(letters);
                return times ? bound(l * r) : r == 0 ? 0 : bound(l / r);
            };
        }
        return one;
    }

    private Sum atom(int depth) {
        int kind = depth < 6 ? random.nextInt(7) : random.nextInt(6);
        if (kind == 6) {
            put("[");
            Sum inner = sum(depth + 1);
            put("]");
            return inner;
        }
        if (kind < 4) {
            int letter = random.nextInt(5);
            put("plban".substring(letter, letter + 1));
            return letters -> letters[letter];
        }
        int number = random.nextInt(new int[] {5, 20, 10000}[random.nextInt(3)]);
        put(random.nextInt(5) == 0 ? String.format("%04d", number) : Integer.toString(number));
        return letters -> number;
    }
}
