import java.util.ArrayList;
import java.util.HashMap;
import java.util.HashSet;
import java.util.List;
import java.util.Map;
import java.util.Set;

/**
 * A second reading of the document's language, made apart from the class: it cuts the tape into
 * tokens, builds a tree, looks for faults in the tree, and writes code with labels.
 */
final class ModelCompiler {
    private static final String CLEAR = "abcdefghijklm";
    private static final String SECRET = "nopqrstuvwxyz";
    private static final String ARRAYS = "ABCDEFGH";
    private static final char END = 0;

    private record Token(char kind, String text, int at) { }

    /** A name (of a variable, an array or an operation) with its place, and what it is made of. */
    private record Node(String kind, char name, int at, String text, List<Node> parts, List<Node> others) { }

    private static final class Stuck extends RuntimeException {
        private static final long serialVersionUID = 1L;
        private final int at;

        Stuck(int at) {
            super(null, null, false, false);
            this.at = at;
        }
    }

    private final List<Token> tokens = new ArrayList<>();
    private final int parties;
    private final List<int[]> blames = new ArrayList<>();
    private final List<Node> done = new ArrayList<>();
    private final Set<String> told = new HashSet<>();
    private final Map<String, Integer> labels = new HashMap<>();
    private final Map<Integer, String> jumps = new HashMap<>();
    private int next;
    private int open;
    private int labelCount;
    int kind;
    int place;
    final List<Integer> code = new ArrayList<>();

    ModelCompiler(String tape, int parties) {
        this.parties = parties;
        for (int i = 0; i < tape.length(); i++) {
            char c = tape.charAt(i);
            int from = i;
            if (Character.isDigit(c)) {
                while (i + 1 < tape.length() && Character.isDigit(tape.charAt(i + 1))) {
                    i++;
                }
                tokens.add(new Token('#', tape.substring(from, i + 1), from));
            } else if (c != ' ') {
                tokens.add(new Token(c, "", i));
            }
        }
        tokens.add(new Token(END, "", tape.length()));
    }

    boolean compile() {
        List<Node> all;
        try {
            all = block(END, false);
        } catch (Stuck e) {
            kind = 1;
            place = e.at;
            return false;
        }
        judge(all);
        for (Node call : done) {
            if (!told.contains(call.text)) {
                blames.add(new int[] {call.at, 5});
            }
        }
        for (int[] blame : blames) {
            if (kind == 0 || blame[0] < place || blame[0] == place && blame[1] < kind) {
                place = blame[0];
                kind = blame[1];
            }
        }
        if (kind != 0) {
            return false;
        }
        write(all);
        code.add(0);
        for (Map.Entry<Integer, String> jump : jumps.entrySet()) {
            int target = labels.get(jump.getValue());
            code.set(jump.getKey(), target / 256);
            code.set(jump.getKey() + 1, target % 256);
        }
        return true;
    }

    private char seen() {
        return tokens.get(next).kind;
    }

    private Stuck stuck() {
        return new Stuck(tokens.get(next).at);
    }

    private Token take(String kinds) {
        if (seen() == END || kinds.indexOf(seen()) < 0) {
            throw stuck();
        }
        return tokens.get(next++);
    }

    private Token digit() {
        Token t = take("#");
        if (t.text.length() > 1) {
            throw new Stuck(t.at + 1);
        }
        return t;
    }

    private Token opening(String kinds) {
        if (open == 20) {
            throw stuck();
        }
        Token t = take(kinds);
        open++;
        return t;
    }

    private void closing(String kinds) {
        take(kinds);
        open--;
    }

    private static Node node(String kind, Token t, List<Node> parts, List<Node> others) {
        return new Node(kind, t.kind, t.at, t.text, parts, others);
    }

    private static Node leaf(String kind, Token t) {
        return node(kind, t, List.of(), List.of());
    }

    private List<Node> block(char end, boolean nested) {
        List<Node> all = new ArrayList<>();
        while (seen() != end) {
            all.add(statement(nested));
        }
        if (end != END) {
            next++;
        }
        return all;
    }

    private Node statement(boolean nested) {
        Token first;
        switch (seen()) {
            case '>':
                next++;
                first = take(CLEAR + SECRET);
                take(";");
                return leaf("out", first);
            case '@':
                int at = tokens.get(next++).at;
                String d = digit().text;
                if (seen() == '[' && !nested) {
                    next++;
                    return new Node("tell", '@', at, d, block(']', true), List.of());
                }
                take(";");
                return new Node("call", '@', at, d, List.of(), List.of());
            case '?':
                opening("?");
                first = take(CLEAR + SECRET);
                take("[");
                Node choice = node("if", first, block('|', true), block(']', true));
                open--;
                return choice;
            case '*':
                opening("*");
                first = take(CLEAR + SECRET);
                take("[");
                Node loop = node("while", first, block(']', true), List.of());
                open--;
                return loop;
            default:
                first = take(CLEAR + SECRET + ARRAYS);
                return ARRAYS.indexOf(first.kind) < 0 ? ofVariable(first) : ofArray(first);
        }
    }

    private Node ofVariable(Token v) {
        switch (take("<=:!").kind) {
            case '<':
                Node giver = leaf("giver", digit());
                take(";");
                return node("in", v, List.of(giver), List.of());
            case ':':
                Node secret = leaf("var", take(CLEAR + SECRET));
                take(";");
                return node("open", v, List.of(secret), List.of());
            case '!':
                take(";");
                return leaf("bit", v);
            default:
                if (ARRAYS.indexOf(seen()) >= 0 && seen() != END && tokens.get(next + 1).kind == '.') {
                    Node left = leaf("array", take(ARRAYS));
                    take(".");
                    Node right = leaf("array", take(ARRAYS));
                    take(";");
                    return node("dot", v, List.of(left, right), List.of());
                }
                Node x = sum();
                take(";");
                return node("set", v, List.of(x), List.of());
        }
    }

    private Node ofArray(Token array) {
        if (seen() == '[') {
            Token bracket = opening("[");
            Node index = node("index", bracket, List.of(sum()), List.of());
            closing("]");
            take("=");
            Node x = sum();
            take(";");
            return node("setplace", array, List.of(index, x), List.of());
        }
        take("=");
        Node left = leaf("array", take(ARRAYS));
        Token operation = take("+-*");
        Node right = leaf("array", take(ARRAYS));
        take(";");
        return node("arrays", array, List.of(left, right, leaf("operation", operation)), List.of());
    }

    private Node sum() {
        Node left = product();
        while (seen() == '+' || seen() == '-') {
            Token t = take("+-");
            left = node("two", t, List.of(left, product()), List.of());
        }
        return left;
    }

    private Node product() {
        Node left = factor();
        while (seen() == '*') {
            Token t = take("*");
            left = node("two", t, List.of(left, factor()), List.of());
        }
        return left;
    }

    private Node factor() {
        if (seen() == '-') {
            Token t = opening("-");
            Node f = factor();
            open--;
            return node("minus", t, List.of(f), List.of());
        }
        Node x;
        if (seen() == '(') {
            opening("(");
            x = sum();
            closing(")");
        } else {
            Token t = take("#" + CLEAR + SECRET + ARRAYS);
            if (t.kind == '#') {
                if (t.text.length() > 18) {
                    throw new Stuck(t.at + 18);
                }
                x = leaf("number", t);
            } else if (ARRAYS.indexOf(t.kind) < 0) {
                x = leaf("var", t);
            } else {
                if (seen() != '[') {
                    throw stuck();
                }
                Token bracket = opening("[");
                x = node("place", t, List.of(node("index", bracket, List.of(sum()), List.of())), List.of());
                closing("]");
            }
        }
        while (seen() == '^') {
            x = node("square", take("^"), List.of(x), List.of());
        }
        return x;
    }

    private static boolean clearVariable(Node n) {
        return CLEAR.indexOf(n.name) >= 0;
    }

    private static int array(Node n) {
        return ARRAYS.indexOf(n.name);
    }

    private static boolean secret(Node x) {
        switch (x.kind) {
            case "var": return !clearVariable(x);
            case "place": case "array": return array(x) > 3;
            default: return x.parts.stream().anyMatch(ModelCompiler::secret);
        }
    }

    private void blameIf(boolean wrong, Node n, int kindOfFault) {
        if (wrong) {
            blames.add(new int[] {n.at, kindOfFault});
        }
    }

    private void judge(List<Node> nodes) {
        for (Node n : nodes) {
            switch (n.kind) {
                case "in":
                    blameIf(clearVariable(n), n, 2);
                    blameIf(Integer.parseInt(n.parts.get(0).text) >= parties, n.parts.get(0), 4);
                    break;
                case "open":
                    blameIf(!clearVariable(n), n, 2);
                    blameIf(clearVariable(n.parts.get(0)), n.parts.get(0), 2);
                    break;
                case "bit": case "dot":
                    blameIf(clearVariable(n), n, 2);
                    break;
                case "if": case "while":
                    blameIf(!clearVariable(n), n, 2);
                    break;
                case "set":
                    blameIf(clearVariable(n) && secret(n.parts.get(0)), n, 3);
                    break;
                case "setplace":
                    blameIf(array(n) < 4 && secret(n.parts.get(1)), n, 3);
                    break;
                case "arrays":
                    blameIf(array(n) < 4 && (secret(n.parts.get(0)) || secret(n.parts.get(1))), n, 3);
                    break;
                case "index":
                    blameIf(secret(n.parts.get(0)), n, 3);
                    break;
                case "call":
                    done.add(n);
                    break;
                case "tell":
                    blameIf(!told.add(n.text), n, 5);
                    break;
                default:
                    break;
            }
            judge(n.parts);
            judge(n.others);
        }
    }

    private void bytes(int... values) {
        for (int value : values) {
            code.add(value);
        }
    }

    private void jump(String label) {
        jumps.put(code.size(), label);
        bytes(0, 0);
    }

    private void label(String label) {
        labels.put(label, code.size());
    }

    private static int variable(Node n) {
        return clearVariable(n) ? CLEAR.indexOf(n.name) : SECRET.indexOf(n.name);
    }

    private void write(List<Node> nodes) {
        for (Node n : nodes) {
            write(n);
        }
    }

    private void write(Node n) {
        String own = "own" + labelCount++;
        switch (n.kind) {
            case "in": bytes(13, variable(n), Integer.parseInt(n.parts.get(0).text)); break;
            case "open": bytes(14, variable(n), variable(n.parts.get(0))); break;
            case "bit": bytes(27, variable(n)); break;
            case "out": bytes(clearVariable(n) ? 15 : 16, variable(n)); break;
            case "dot": bytes(26, array(n.parts.get(0)), array(n.parts.get(1)), 12, variable(n)); break;
            case "set":
                write(n.parts);
                bytes(clearVariable(n) ? 11 : 12, variable(n));
                break;
            case "setplace":
                write(n.parts);
                bytes(array(n) < 4 ? 21 : 22, array(n) % 4);
                break;
            case "arrays":
                bytes(23 + "+-*".indexOf(n.parts.get(2).name), array(n), array(n.parts.get(0)), array(n.parts.get(1)));
                break;
            case "call":
                bytes(28);
                jump("routine" + n.text);
                break;
            case "tell":
                bytes(18);
                jump(own);
                label("routine" + n.text);
                write(n.parts);
                bytes(29);
                label(own);
                break;
            case "if":
                bytes(17, variable(n));
                jump(own + "else");
                write(n.parts);
                bytes(18);
                jump(own);
                label(own + "else");
                write(n.others);
                label(own);
                break;
            case "while":
                label(own + "again");
                bytes(17, variable(n));
                jump(own);
                write(n.parts);
                bytes(18);
                jump(own + "again");
                label(own);
                break;
            default:
                writeExpression(n);
                break;
        }
    }

    private void writeExpression(Node x) {
        switch (x.kind) {
            case "number":
                long value = Long.parseLong(x.text);
                bytes(1);
                for (int i = 7; i >= 0; i--) {
                    bytes((int) (value >> 8 * i & 255));
                }
                break;
            case "var": bytes(clearVariable(x) ? 2 : 3, variable(x)); break;
            case "index": write(x.parts); break;
            case "place":
                write(x.parts);
                bytes(array(x) < 4 ? 19 : 20, array(x) % 4);
                break;
            case "minus":
                write(x.parts);
                bytes(8);
                break;
            case "square":
                write(x.parts);
                bytes(secret(x) ? 10 : 9);
                break;
            default:
                write(x.parts);
                boolean both = secret(x.parts.get(0)) && secret(x.parts.get(1));
                bytes(x.name == '+' ? 4 : x.name == '-' ? 5 : both ? 7 : 6);
                break;
        }
    }
}
