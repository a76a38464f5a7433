import java.util.Random;

/** Makes programs by chance, from a given source of it. */
final class Making {
    private final Random random;
    private final StringBuilder text = new StringBuilder();
    private int left;
    private int procedures;
    private final boolean forward;
    private final boolean blanks;
    private int now;

    Making(Random random) {
        this.random = random;
        forward = random.nextInt(3) == 0;
        blanks = random.nextInt(5) == 0;
    }

    String program() {
        procedures = 1 + random.nextInt(random.nextInt(4) == 0 ? 5 : 3);
        int all = random.nextInt(10) == 0 ? 44 : 4 + random.nextInt(20);
        for (now = 0; now < procedures; now++) {
            left = Math.max(1, all / procedures + random.nextInt(3) - 1);
            put("" + (char) ('A' + now));
            block(0);
        }
        return text.length() > 490 ? "A{^1;}" : text.toString();
    }

    private void put(String token) {
        if (blanks && random.nextInt(3) == 0) {
            text.append(random.nextBoolean() ? " " : "\n");
        }
        text.append(token);
    }

    private void block(int depth) {
        put("{");
        int most = depth == 0 ? 99 : random.nextInt(4);
        for (int i = 0; i < most && left > 0 && text.length() < 470; i++) {
            statement(depth);
        }
        put("}");
    }

    private String variable() {
        return "" + "abcdef".charAt(random.nextInt(random.nextInt(3) == 0 ? 6 : 4));
    }

    private String name() {
        return random.nextInt(3) > 0 ? variable() : "" + "wxyz".charAt(random.nextInt(random.nextInt(3) == 0 ? 4 : 2));
    }

    private String operand() {
        int what = random.nextInt(12);
        return what < 8 ? name() : what < 11 ? "" + random.nextInt(5) : "" + random.nextInt(1000);
    }

    private void call() {
        int to = random.nextInt(procedures);
        if (forward) {
            to = now + 1 + random.nextInt(procedures - now);
            if (to >= procedures) {
                set();
                return;
            }
        }
        put(variable());
        put("=");
        put("" + (char) ('A' + to));
        put("(");
        put(operand());
        put(",");
        put(operand());
        put(")");
        put(";");
    }

    private void set() {
        put(name());
        put("=");
        put(operand());
        if (random.nextInt(3) > 0) {
            put("" + "++-*<".charAt(random.nextInt(5)));
            put(operand());
        }
        put(";");
    }

    private void condition(String sign, int depth) {
        put(sign);
        put(operand());
        put("<");
        put(operand());
        block(depth + 1);
    }

    private void statement(int depth) {
        int what = random.nextInt(20);
        boolean deep = depth >= (random.nextInt(60) == 0 ? 7 : 4);
        if (what != 19) {
            left--;
        }
        if (what < 6 || deep && what >= 12) {
            set();
        } else if (what < 10) {
            call();
        } else if (what == 10) {
            put("!");
            put(operand());
            put(";");
        } else if (what == 11) {
            put("^");
            put(operand());
            put(";");
        } else if (what < 15) {
            condition("?", depth);
            if (random.nextBoolean()) {
                put(":");
                block(depth + 1);
            }
        } else if (what < 17) {
            condition("@", depth);
        } else {
            put("%");
            block(depth + 1);
            put(variable());
            block(depth + 1);
        }
    }
}
