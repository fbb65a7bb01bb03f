import java.util.ArrayList;
import java.util.HashSet;
import java.util.List;
import java.util.Set;

/** A second reading of what the verifier refuses; the pile is a text of c and s. */
final class ModelVerifier {
    /** What stands behind an operation's byte: v a variable, P a party, a one of 4 arrays, A of 8, j a place, 8 a number. */
    static final String[] FORMS = {"", "88888888", "v", "v", "", "", "", "", "", "", "", "v", "v", "vP", "vv", "v", "v", "vjj",
        "jj", "a", "a", "a", "a", "AAA", "AAA", "AAA", "AA", "v", "jj", ""};

    private final List<Integer> code;
    private final int parties;
    private final List<Integer> places = new ArrayList<>();
    int kind;
    int place;

    ModelVerifier(List<Integer> code, int parties) {
        this.code = code;
        this.parties = parties;
    }

    int operations() {
        return places.size();
    }

    boolean verify() {
        return form() && targets() && pile();
    }

    private boolean refuse(int newKind, int at) {
        kind = newKind;
        place = at;
        return false;
    }

    private boolean form() {
        int at = 0;
        while (at < code.size()) {
            if (code.get(at) >= FORMS.length) {
                return refuse(1, at);
            }
            String form = FORMS[code.get(at)];
            if (at + form.length() >= code.size()) {
                return refuse(1, at);
            }
            for (int i = 0; i < form.length(); i++) {
                char c = form.charAt(i);
                int most = c == 'v' ? 13 : c == 'P' ? parties : c == 'a' ? 4 : c == 'A' ? 8 : 256;
                if (code.get(at + 1 + i) >= most) {
                    return refuse(1, at);
                }
            }
            if (code.get(at) == 1 && Long.compareUnsigned(number(code, at + 1), Desk.P - 1) > 0) {
                return refuse(1, at);
            }
            places.add(at);
            at += 1 + form.length();
        }
        boolean ends = !places.isEmpty() && code.get(places.get(places.size() - 1)) == 0;
        return ends || refuse(1, code.size());
    }

    static long number(List<Integer> code, int at) {
        long value = 0;
        for (int i = 0; i < 8; i++) {
            value = value << 8 | code.get(at + i);
        }
        return value;
    }

    private final Set<Integer> aims = new HashSet<>();

    private boolean targets() {
        for (int at : places) {
            String form = FORMS[code.get(at)];
            if (form.endsWith("jj")) {
                int target = 256 * code.get(at + form.length() - 1) + code.get(at + form.length());
                if (!places.contains(target)) {
                    return refuse(2, at);
                }
                aims.add(target);
            }
        }
        return true;
    }

    private boolean pile() {
        String pile = "";
        for (int at : places) {
            int operation = code.get(at);
            boolean empty = Set.of(0, 17, 18, 28, 29).contains(operation) || aims.contains(at);
            if (empty && !pile.isEmpty()) {
                return refuse(3, at);
            }
            pile = behind(pile, operation, at);
            if (pile == null || pile.length() > 64) {
                return refuse(3, at);
            }
        }
        return true;
    }

    /** Null if the operation can't work on this pile. */
    private String behind(String pile, int operation, int at) {
        switch (operation) {
            case 1: case 2: return pile + "c";
            case 3: case 26: return pile + "s";
            case 4: case 5: return joined(pile, "cc cs sc ss");
            case 6: return joined(pile, "cc cs sc");
            case 7: return joined(pile, "ss");
            case 8: return pile.isEmpty() ? null : pile;
            case 9: return pile.endsWith("c") ? pile : null;
            case 10: return pile.endsWith("s") ? pile : null;
            case 11: return pile.endsWith("c") ? pile.substring(0, pile.length() - 1) : null;
            case 12: return pile.isEmpty() ? null : pile.substring(0, pile.length() - 1);
            case 19: return pile.endsWith("c") ? pile : null;
            case 20: return pile.endsWith("c") ? pile.substring(0, pile.length() - 1) + "s" : null;
            case 21: return pile.endsWith("cc") ? pile.substring(0, pile.length() - 2) : null;
            case 22: return pile.endsWith("cc") || pile.endsWith("cs") ? pile.substring(0, pile.length() - 2) : null;
            case 23: case 24: case 25:
                boolean secret = code.get(at + 2) > 3 || code.get(at + 3) > 3;
                return code.get(at + 1) < 4 && secret ? null : pile;
            default: return pile;
        }
    }

    private static String joined(String pile, String pairs) {
        if (pile.length() < 2) {
            return null;
        }
        String two = pile.substring(pile.length() - 2);
        if (!pairs.contains(two)) {
            return null;
        }
        return pile.substring(0, pile.length() - 2) + (two.contains("s") ? "s" : "c");
    }
}
