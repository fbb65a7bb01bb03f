import java.util.ArrayList;
import java.util.List;
import java.util.Random;
import java.util.TreeSet;

/** Makes programs, tapes with faults, and code for the tests with the model; the same seed makes the same. */
final class Maker {
    private final Random random;

    Maker(long seed) {
        random = new Random(seed);
    }

    int below(int n) {
        return random.nextInt(n);
    }

    boolean chance(double p) {
        return random.nextDouble() < p;
    }

    char any(String of) {
        return of.charAt(below(of.length()));
    }

    String oneOf(String... of) {
        return of[below(of.length)];
    }

    /** Mostly within what is allowed, now and then just or far outside. */
    long within(int least, int most) {
        if (chance(0.06)) {
            return new long[] {least - 1L, most + 1L, Integer.MIN_VALUE, Integer.MAX_VALUE}[below(4)];
        }
        return least + below(most - least + 1);
    }

    long aLong() {
        long[] some = {0, 1, 2, 5, -1, Desk.P, Desk.P - 1, Desk.P + 1, -Desk.P, Long.MAX_VALUE, Long.MIN_VALUE};
        int i = below(some.length + 4);
        return i < some.length ? some[i] : i % 2 == 0 ? random.nextLong() : below(100);
    }

    private String expression(int depth, boolean clear) {
        double r = random.nextDouble();
        if (depth <= 0 || r < 0.4) {
            double k = random.nextDouble();
            if (k < 0.35) {
                return "" + any(clear ? "abcde" : "abcnopqnopq");
            }
            if (k < 0.7) {
                return oneOf("0", "1", "2", "3", "5", "15", "16", "999999999999999999", "" + below(1000));
            }
            String index = chance(0.6) ? "" + below(17) : expression(depth - 1, true);
            return any(clear ? "AB" : "ABEFGH") + "[" + index + "]";
        }
        if (r < 0.6) {
            return expression(depth - 1, clear) + any("+-") + expression(depth - 1, clear);
        }
        if (r < 0.75) {
            return expression(depth - 1, clear) + "*" + expression(depth - 1, clear);
        }
        if (r < 0.85) {
            return "(" + expression(depth - 1, clear) + ")" + oneOf("", "^", "^^");
        }
        return r < 0.93 ? "-" + expression(depth - 1, clear) : any(clear ? "ab" : "anop") + "^";
    }

    private String statement(int depth, int parties, TreeSet<Integer> routines) {
        String secret = "nopq";
        switch (below(20)) {
            case 0: case 1: return any(secret) + "<" + below(parties) + ";";
            case 2: case 3: case 4: return any(secret) + "=" + expression(2, false) + ";";
            case 5: case 6: return any("abc") + "=" + expression(2, true) + ";";
            case 7: return any("EF") + "[" + oneOf("0", "1", "15", "16", "a") + "]=" + expression(1, false) + ";";
            case 8: return any("AB") + "[" + oneOf("0", "1", "15", "a") + "]=" + expression(1, true) + ";";
            case 9: return any("EFGH") + "=" + any("ABEFGH") + any("+-*") + any("ABEFGH") + ";";
            case 10: return any("AB") + "=" + any("ABC") + any("+-*") + any("ABC") + ";";
            case 11: return any(secret) + "=" + any("ABEFGH") + "." + any("ABEFGH") + ";";
            case 12: case 13: return any("abc") + ":" + any(secret) + ";";
            case 14: return any(secret) + "!;";
            case 15: case 16: return ">" + any("abcnopqn") + ";";
            case 17:
                int d = below(3);
                routines.add(d);
                return "@" + d + ";";
            default:
                if (depth <= 0) {
                    return ">n;";
                }
                String inner = statements(below(3), depth - 1, parties, routines);
                if (chance(0.5)) {
                    return "?" + any("abc") + "[" + inner + "|" + statements(below(3), depth - 1, parties, routines) + "]";
                }
                char v = any("abc");
                return v + "=" + below(4) + ";*" + v + "[" + inner + v + "=" + v + "-1;]";
        }
    }

    private String statements(int n, int depth, int parties, TreeSet<Integer> routines) {
        StringBuilder text = new StringBuilder();
        for (int i = 0; i < n; i++) {
            text.append(statement(depth, parties, routines));
        }
        return text.toString();
    }

    String program(int parties) {
        TreeSet<Integer> routines = new TreeSet<>();
        String text = statements(1 + below(8), 2, parties, routines);
        TreeSet<Integer> told = new TreeSet<>();
        while (!told.containsAll(routines)) {
            for (int d : new TreeSet<>(routines)) {
                if (told.add(d)) {
                    String routine = "@" + d + "[" + statements(below(3), 1, parties, routines) + "]";
                    text = chance(0.5) ? routine + text : text + routine;
                }
            }
        }
        return text;
    }

    /** Some characters come in, go, or become others. */
    String spoiled(String text) {
        StringBuilder t = new StringBuilder(text);
        for (int i = 0; i <= below(3); i++) {
            int at = below(t.length() + 1);
            char c = any("abnoAEF0123456789[](){};;|^*+-=<>:!@?. .[]()--$~");
            int way = below(4);
            if (way == 0 || t.length() == 0) {
                t.insert(at, c);
            } else if (way == 1) {
                t.insert(at, "  ");
            } else if (way == 2) {
                t.deleteCharAt(at % t.length());
            } else {
                t.setCharAt(at % t.length(), c);
            }
        }
        return t.toString();
    }

    /** Names become others, so that the form stays but sorts may be wrong. */
    String renamed(String text) {
        StringBuilder t = new StringBuilder(text);
        for (int i = 0; i < 4; i++) {
            int at = below(t.length());
            char c = t.charAt(at);
            if (c >= 'a' && c <= 'z') {
                t.setCharAt(at, any("abmnoz"));
            } else if (c >= 'A' && c <= 'H') {
                t.setCharAt(at, any("ADEH"));
            } else if (c >= '0' && c <= '9') {
                t.setCharAt(at, any("012349"));
            }
        }
        return t.toString();
    }

    private String deepExpression(int depth) {
        if (depth <= 0) {
            return oneOf("1", "a", "2^", "b");
        }
        switch (below(4)) {
            case 0: return "(" + deepExpression(depth - 1) + oneOf("", " +1", "*-1") + ")" + oneOf("", "^");
            case 1: return "-" + deepExpression(depth - 1);
            case 2: return "A[" + deepExpression(depth - 1) + "]";
            default: return oneOf("1+", "a*", "-(1)+") + deepExpression(depth - 1);
        }
    }

    /** About as deep as may be. */
    String deep(int depth) {
        if (depth <= 0) {
            return "";
        }
        switch (below(5)) {
            case 0: return "?a[" + deep(depth - 1) + "|" + oneOf("", "a=(1);") + "]";
            case 1: return "?a[|" + deep(depth - 1) + "]";
            case 2: return "*b[" + deep(depth - 1) + "]";
            case 3: return oneOf("a=", "A[1]=") + deepExpression(depth + below(3) - 1) + ";";
            default: return "A[" + deepExpression(depth + below(3) - 2) + "]=1;" + deep(depth - 1);
        }
    }

    /** Bytes that are mostly operations, in an order that mostly is refused. */
    List<Integer> anyCode() {
        List<Integer> code = new ArrayList<>();
        for (int i = 0; i <= below(25); i++) {
            int operation = chance(0.02) ? below(256) : chance(0.5) ? below(30) : 1 + below(16);
            code.add(operation);
            for (int k = 0; operation < 30 && k < ModelVerifier.FORMS[operation].length(); k++) {
                code.add(chance(0.02) ? below(256) : new int[] {0, 1, 2, 3, 4, 7, 12, below(14)}[below(8)]);
            }
        }
        if (chance(0.95)) {
            code.add(0);
        }
        return code;
    }

    /** Code that is mostly let through, with targets wherever the pile is empty. */
    List<Integer> goodCode(int parties) {
        List<Integer> code = new ArrayList<>();
        List<Integer> targets = new ArrayList<>();
        List<Integer> jumps = new ArrayList<>();
        String pile = "";
        int length = 10 + below(chance(0.2) ? 250 : 50);
        for (int i = 0; i < length; i++) {
            if (pile.isEmpty()) {
                targets.add(code.size());
            }
            int operation = below(30);
            String then = pile.length() > 20 ? null : after(pile, operation);
            if (then == null) {
                operation = pile.length() > 10 || chance(0.3) && !pile.isEmpty() ? 12 : 2 + below(2);
                then = after(pile, operation);
            }
            pile = then;
            code.add(operation);
            for (char c : ModelVerifier.FORMS[operation].toCharArray()) {
                if (c == 'j') {
                    jumps.add(code.size());
                }
                int arrays = operation == 26 ? below(8) : 4 + below(4);
                code.add(c == 'v' ? below(3) : c == 'P' ? below(parties) : c == 'a' ? below(4) : c == 'A' ? arrays : 0);
            }
            if (operation == 1) {
                code.set(code.size() - 1, new int[] {0, 1, 2, 15, 16}[below(5)]);
            }
        }
        for (int i = 0; i < pile.length(); i++) {
            code.add(12);
            code.add(below(3));
        }
        targets.add(code.size());
        code.add(0);
        for (int i = 0; i + 1 < jumps.size(); i += 2) {
            int target = targets.get(below(targets.size()));
            code.set(jumps.get(i), target / 256);
            code.set(jumps.get(i + 1), target % 256);
        }
        return code;
    }

    private static String after(String pile, int operation) {
        int n = pile.length();
        String last = n > 0 ? pile.substring(n - 1) : "";
        String two = n > 1 ? pile.substring(n - 2) : "";
        switch (operation) {
            case 1: case 2: return pile + "c";
            case 3: case 26: return pile + "s";
            case 0: case 17: case 18: case 28: case 29: return pile.isEmpty() ? pile : null;
            case 4: case 5: return n > 1 ? pile.substring(0, n - 2) + (two.contains("s") ? "s" : "c") : null;
            case 6: return n > 1 && !two.equals("ss") ? pile.substring(0, n - 2) + (two.equals("cc") ? "c" : "s") : null;
            case 7: return two.equals("ss") ? pile.substring(0, n - 1) : null;
            case 8: return n > 0 ? pile : null;
            case 9: case 19: return last.equals("c") ? pile : null;
            case 10: return last.equals("s") ? pile : null;
            case 11: return last.equals("c") ? pile.substring(0, n - 1) : null;
            case 12: return n > 0 ? pile.substring(0, n - 1) : null;
            case 20: return last.equals("c") ? pile.substring(0, n - 1) + "s" : null;
            case 21: return two.equals("cc") ? pile.substring(0, n - 2) : null;
            case 22: return two.startsWith("c") ? pile.substring(0, n - 2) : null;
            default: return pile;
        }
    }
}
