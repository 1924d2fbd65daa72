import java.util.Random;

/** Draws texts of either language, some of them with a fault. */
final class Texts {
    private final Random random;
    private final boolean orders;
    private final StringBuilder out = new StringBuilder();

    Texts(Random random, boolean orders) {
        this.random = random;
        this.orders = orders;
    }

    String text() {
        int sort = random.nextInt(20);
        int clauses = sort == 0 ? 11 + random.nextInt(3) : sort == 1 ? 0 : 1 + random.nextInt(6);
        for (int i = 0; i < clauses; i++) {
            if (i > 0) {
                put(";");
            }
            clause(sort == 0 ? 0 : sort == 2 ? 9 : 2);
        }
        if (sort == 3) {
            deep();
        }
        if (sort == 4) {
            many();
        }
        String text = out.toString();
        for (int i = random.nextInt(8); i > 6 && !text.isEmpty(); i--) {
            text = spoil(text);
        }
        return text;
    }

    private String spoil(String text) {
        int place = random.nextInt(text.length());
        String[] bits = {"", " ", ";", "x", "7", "(", ")", "[", "]", "if", " not ", "A", "\u00e9", "-", " or ", "1001", "\0", "\n"};
        int cut = random.nextInt(3);
        return text.substring(0, place) + bits[random.nextInt(bits.length)] + text.substring(Math.min(text.length(), place + cut));
    }

    private void put(String token) {
        if (out.length() > 0) {
            char last = out.charAt(out.length() - 1);
            boolean same = Character.isLetter(last) && Character.isLetter(token.charAt(0)) || Character.isDigit(last) && Character.isDigit(token.charAt(0));
            if (same || random.nextInt(3) == 0) {
                out.append(random.nextInt(9) == 0 ? "   " : " ");
            }
        }
        out.append(token);
    }

    private String one(String... all) {
        return all[random.nextInt(all.length)];
    }

    private void clause(int size) {
        String verb = orders ? one("ring", "ring", "ring", "engage", "smash", "pass", "pass") : one("tells", "tells", "soaks", "goes", "goes", "bars");
        put(verb);
        if (orders) {
            orderRest(verb, size);
        } else if (!verb.equals("bars")) {
            sum(size);
        }
        if (random.nextInt(verb.equals("bars") ? 8 : 2) > 0) {
            put("if");
            test(size);
        }
    }

    private void orderRest(String verb, int size) {
        if (verb.equals("ring")) {
            small(3, size);
            put("to");
            small(2, size);
        } else if (verb.equals("engage")) {
            small(2, size);
        } else if (verb.equals("smash")) {
            small(5, size);
        }
        if (random.nextInt(3) == 0) {
            put("times");
            put("" + (random.nextInt(20) == 0 ? random.nextInt(25) : 1 + random.nextInt(4)));
        }
    }

    /** Mostly a number that there is. */
    private void small(int most, int size) {
        if (random.nextInt(6) > 0) {
            put("" + random.nextInt(most + 1));
        } else {
            sum(size);
        }
    }

    private void test(int size) {
        both(size);
        for (int i = random.nextInt(4); i == 3 && size > 0; i--) {
            put("or");
            both(size - 1);
        }
    }

    private void both(int size) {
        plain(size);
        for (int i = random.nextInt(4); i == 3 && size > 0; i--) {
            put("and");
            plain(size - 1);
        }
    }

    private void plain(int size) {
        for (int i = random.nextInt(6); i >= 5; i--) {
            put("not");
        }
        if (size > 0 && random.nextInt(4) == 0) {
            put("(");
            test(size - 1);
            put(")");
        } else {
            sum(size - 1);
            put(one("<", ">", "="));
            sum(size - 1);
        }
    }

    private void sum(int size) {
        term(size);
        for (int i = random.nextInt(3); i >= 2 && size > 0; i--) {
            put(one("+", "-"));
            term(size - 1);
        }
    }

    private void term(int size) {
        part(size);
        for (int i = random.nextInt(4); i >= 2 && size > 0; i--) {
            put(one("*", "/", "%"));
            part(size - 1);
        }
    }

    private void part(int size) {
        if (size > 0 && random.nextInt(5) == 0) {
            put("[");
            sum(size - 1);
            put("]");
            return;
        }
        if (random.nextInt(2) == 0) {
            put(number());
            return;
        }
        if (!orders) {
            put(one("cloud", "kind", "rage", "box", "folk", "knows", "wet", "night", "mood"));
            return;
        }
        String word = one("night", "done", "latest", "learnt", "soaked", "at", "busy");
        put(word);
        if (word.equals("at")) {
            put("" + random.nextInt(random.nextInt(20) == 0 ? 8 : 6));
        }
        if (word.equals("busy")) {
            put("" + random.nextInt(random.nextInt(20) == 0 ? 7 : 5));
        }
    }

    private String number() {
        int r = random.nextInt(40);
        return r == 0 ? "1000" : r == 1 ? "1001" : r == 2 ? "007" : r == 3 ? "99999999999999" : r < 8 ? "" + random.nextInt(1001) : "" + random.nextInt(10);
    }

    /** About as many brackets within one another as there may be. */
    private void deep() {
        out.append(out.length() > 0 ? ";" : "").append(orders ? "pass if " : "bars if ");
        int round = random.nextInt(10);
        int square = 7 + random.nextInt(3) - Math.min(7, round);
        out.append("(".repeat(round)).append("[".repeat(Math.max(0, square))).append("1").append("]".repeat(Math.max(0, square)))
            .append("=1").append(")".repeat(round));
    }

    /** About as many parts as there may be. */
    private void many() {
        out.append(out.length() > 0 ? ";" : "").append(orders ? "smash 0" : "tells 0");
        int parts = 30 + random.nextInt(25);
        for (int i = 0; i < parts; i++) {
            out.append(one("+", "-", "*")).append(random.nextInt(3) == 0 ? "night" : "1");
        }
    }
}
