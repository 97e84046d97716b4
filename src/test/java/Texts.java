import java.util.Random;

/** Texts by chance: most of them right, some spoiled. */
final class Texts {
    private static final String[] WORDS = {
        "worn", "holy", "unlike", "kind", "many", "lend", "to", "for", "swap", "with", "steal", "burn", "pass",
        "and", "or", "not", "sort", "weight", "town", "proofs", "year", "osort", "oweight", "otown", "<", "<=", ">",
        ">=", "=", "#", "+", "-", "*", "/", "(", ")", ";", "0", "1", "2", "9", "10", "15", "16", "19", "20", "99",
        "100", "9999", "10000", "00007", "99999999999999", "Worn", "worns", "x", "!", "\u00e9", "\t", "\n", "\0", "==", "_"};
    private final Random random;
    private final StringBuilder out = new StringBuilder();
    private boolean ofTwo;

    Texts(Random random) {
        this.random = random;
    }

    private int below(int n) {
        return random.nextInt(n);
    }

    /** Up to 300 bytes. */
    String any() {
        out.setLength(0);
        int clauses = below(12) == 0 ? 20 + below(8) : below(7);
        boolean[] told = new boolean[3];
        for (int i = 0; i < clauses && out.length() < 300; i++) {
            int word = below(clauses > 10 ? 20 : 12);
            if (word < 3 && told[word] && below(8) != 0) {
                word = 3 + below(6);
            }
            if (word < 3) {
                told[word] = true;
            }
            clause(word, i);
        }
        String text = spoiled(out.toString());
        return text.length() > 300 ? text.substring(0, 300) : text;
    }

    /** A text by which many BONES can't be together. */
    String clashing(int kinds) {
        String[] laws = {
            "weight-oweight>%d", "town#otown", "weight-oweight=%d", "weight/%d=oweight/%d and sort<osort",
            "sort+1=osort or town+1=otown", "(weight-oweight)*(weight-oweight)<%d", "weight*oweight/7/%d*%d=weight*oweight/7",
            "(weight+oweight)/%d*%d=weight+oweight", "not weight/%d*%d=weight and oweight/2*2=oweight",
            "weight*oweight/3-weight*oweight/6*2=1"};
        String law = laws[below(laws.length)].replace("%d", Integer.toString(1 + below(30)));
        StringBuilder text = new StringBuilder("unlike ").append(law).append(';');
        for (int k = 0; k < kinds; k++) {
            if (below(3) != 0) {
                text.append("kind ").append(k).append(" many ").append(1 + below(below(2) == 0 ? 3 : 9)).append(';');
            }
        }
        return text.toString();
    }

    private String spoiled(String text) {
        int how = below(5);
        if (how != 0 || text.isEmpty()) {
            return text;
        }
        int at = below(text.length());
        switch (below(4)) {
            case 0:
                return text.substring(0, at);
            case 1:
                return text.substring(0, at) + text.substring(at + 1);
            case 2:
                return text.substring(0, at) + " " + WORDS[below(WORDS.length)] + " " + text.substring(at);
            default:
                return text.substring(0, at) + WORDS[below(WORDS.length)] + text.substring(at + 1);
        }
    }

    private void put(String token) {
        char first = token.charAt(0);
        char last = out.length() == 0 ? ' ' : out.charAt(out.length() - 1);
        boolean glue = (Character.isLetter(first) && Character.isLetter(last))
                || (Character.isDigit(first) && Character.isDigit(last)) || (last == '<' && first == '=');
        if (glue || below(6) == 0) {
            out.append(below(4) == 0 ? '\n' : ' ');
        }
        out.append(token);
    }

    private void number(int lo, int hi) {
        int n = below(60) == 0 ? below(3) == 0 ? below(12000) : hi + 1 : lo + below(hi - lo + 1);
        put((below(20) == 0 ? "0" : "") + n);
    }

    private void clause(int word, int i) {
        ofTwo = word == 2;
        switch (word) {
            case 0:
                put("worn");
                sum(0);
                break;
            case 1:
            case 2:
                put(ofTwo ? "unlike" : "holy");
                either();
                break;
            case 3:
            case 4:
                put("kind");
                number(0, below(2) == 0 ? 3 : 19);
                put("many");
                number(1, below(2) == 0 ? 3 : 9);
                break;
            case 5:
                put("lend");
                number(0, 5);
                put("to");
                number(0, 4);
                put("for");
                number(1, below(3) == 0 ? 99 : 6);
                break;
            case 6:
                put("swap");
                number(0, 5);
                put("with");
                number(0, 5);
                break;
            case 7:
                put("steal");
                number(0, 5);
                put("to");
                number(0, 4);
                break;
            case 8:
                put("pass");
                number(0, below(4) == 0 ? 99 : 5);
                break;
            default:
                put("burn");
                number(0, i > 3 ? 3 : 1);
                break;
        }
        put(";");
    }

    private void either() {
        ask(0);
        for (int i = below(5) / 2; i > 0; i--) {
            put(below(2) == 0 ? "and" : "or");
            ask(0);
        }
    }

    private void ask(int depth) {
        if (below(4) == 0 && depth < 10) {
            put("not");
            ask(depth + 1);
            return;
        }
        sum(depth);
        put(new String[] {"<", "<=", ">", ">=", "=", "#"}[below(6)]);
        sum(depth);
    }

    private void sum(int depth) {
        one(depth);
        for (int i = below(5) / 2; i > 0; i--) {
            put("+-*/".substring(i % 4 == 0 ? 0 : below(4)).substring(0, 1));
            one(depth);
        }
    }

    private void one(int depth) {
        int what = depth < 10 ? below(9) : below(6);
        if (what < 3) {
            put(Integer.toString(below(4) == 0 ? below(10000) : below(12)));
        } else if (what < 6) {
            boolean other = ofTwo ? below(2) == 0 : below(80) == 0;
            put(other ? WORDS[21 + below(3)] : WORDS[16 + below(5)]);
        } else if (what == 6) {
            put("(");
            sum(depth + 1);
            put(")");
        } else if (what == 7 && depth > 0 && below(3) == 0) {
            deep(depth);
        } else {
            put("-");
            one(depth + 1);
        }
    }

    /** Down to the edge of what may be open. */
    private void deep(int depth) {
        int more = Math.max(0, 7 - depth + below(3));
        for (int i = 0; i < more; i++) {
            put("-");
        }
        one(10);
    }
}
