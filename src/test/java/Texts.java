import java.util.Random;

/** TEXTS drawn by the grammar, some of them with a TOKEN that can't be there. */
final class Texts {
    private static final String[] PLAY_WORDS = {"state", "cue", "word", "next", "part", "mood"};
    private static final String[] LAW_WORDS = {"person", "memory", "born", "dead", "part", "teacher", "year", "mood"};
    private static final String[] TOKENS = {"in", "at", "any", "say", "go", "hush", "if", "or", "and", "not", "slips",
        "hours", "bars", "(", ")", "[", "]", "+", "-", "*", "/", "%", "<", ">", "=", ";", "0", "5", "6", "1000", "1001",
        "0007", "state", "person", "mood", "part", "x", "A", "\u00e9", "\n", "_", "year", "word", "99999999999999"};

    private final Random random;
    private final boolean play;
    private final StringBuilder text = new StringBuilder();
    private final boolean faulty;

    Texts(Random random, boolean play) {
        this.random = random;
        this.play = play;
        faulty = random.nextInt(4) == 0;
    }

    String draw() {
        clause();
        while (random.nextInt(3) > 0 && text.length() < 250) {
            put(";");
            clause();
        }
        if (random.nextInt(30) == 0) put(";");
        if (random.nextInt(30) == 0) text.setLength(random.nextInt(text.length() + 1));
        if (random.nextInt(10) == 0) text.append("  ");
        return text.toString();
    }

    private void put(String token) {
        String drawn = faulty && random.nextInt(25) == 0 ? TOKENS[random.nextInt(TOKENS.length)] : token;
        boolean letters = text.length() > 0 && Character.isLetter(text.charAt(text.length() - 1));
        boolean digits = text.length() > 0 && Character.isDigit(text.charAt(text.length() - 1));
        char first = drawn.charAt(0);
        boolean joins = letters && Character.isLetter(first) || digits && Character.isDigit(first);
        for (int i = joins ? 0 : 1; i < 2 && (joins || random.nextInt(4) == 0); i++) text.append(' ');
        text.append(drawn);
    }

    private void clause() {
        if (play) {
            put("in");
            put(random.nextBoolean() ? "any" : "" + random.nextInt(6));
            put("at");
            put(random.nextBoolean() ? "any" : "" + random.nextInt(6));
            if (random.nextInt(5) == 0) {
                put("hush");
            } else {
                put("say");
                sum(3);
                if (random.nextBoolean()) {
                    put("go");
                    sum(2);
                }
            }
        } else if (random.nextInt(3) == 0) {
            put("bars");
        } else {
            put(random.nextBoolean() ? "slips" : "hours");
            sum(2);
        }
        if (random.nextInt(3) > 0) {
            put("if");
            test(3);
        }
    }

    private void test(int depth) {
        both(depth);
        while (random.nextInt(4) == 0) {
            put("or");
            both(depth);
        }
    }

    private void both(int depth) {
        plain(depth);
        while (random.nextInt(4) == 0) {
            put("and");
            plain(depth);
        }
    }

    private void plain(int depth) {
        while (random.nextInt(5) == 0) put("not");
        if (depth > 0 && random.nextInt(5) == 0) {
            put("(");
            test(depth - 1);
            put(")");
            return;
        }
        sum(1);
        put(new String[] {"<", ">", "="}[random.nextInt(3)]);
        sum(1);
    }

    private void sum(int depth) {
        term(depth);
        while (random.nextInt(4) == 0) {
            put(random.nextBoolean() ? "+" : "-");
            term(depth);
        }
    }

    private void term(int depth) {
        part(depth);
        while (random.nextInt(4) == 0) {
            put(new String[] {"*", "/", "%"}[random.nextInt(3)]);
            part(depth);
        }
    }

    private void part(int depth) {
        String[] words = play ? PLAY_WORDS : LAW_WORDS;
        if (depth > 0 && random.nextInt(4) == 0) {
            put("[");
            sum(depth - 1);
            put("]");
        } else if (random.nextBoolean()) {
            put(words[random.nextInt(words.length)]);
        } else {
            put("" + (random.nextInt(10) == 0 ? random.nextInt(1001) : random.nextInt(12)));
        }
    }
}
