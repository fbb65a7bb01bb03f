import java.nio.charset.StandardCharsets;

/** Where a test makes its calls on one new object and says what is due; all tests count wrong answers here. */
final class Desk {
    static final String ARGUMENT = "IllegalArgumentException";
    static final String INDEX = "IndexOutOfBoundsException";
    static final String STATE = "IllegalStateException";
    static final String ELEMENT = "NoSuchElementException";
    static final long P = (1L << 61) - 1;

    private static int wrong;
    private static int asked;
    private static String sentence = "";

    private static final int MOST_CALLS = 512;

    private final Calls calls;
    private int made;
    private final StringBuilder past = new StringBuilder();

    Desk() {
        this(new Real());
    }

    Desk(Calls calls) {
        this.calls = calls;
    }

    /** A call such as "deal -1 5"; an exception is answered by its class's own name. */
    String ask(String line) {
        made++;
        if (made == MOST_CALLS + 1) {
            wrong++;
            System.out.println(spokenOf() + "this test is too long: what call " + made + " answers is free");
        }
        String[] parts = line.split(" ");
        long[] args = new long[parts.length - 1];
        for (int i = 0; i < args.length; i++) {
            args[i] = Long.parseLong(parts[i + 1]);
        }
        String answer;
        try {
            answer = Long.toString(calls.call(parts[0], args));
        } catch (RuntimeException e) {
            answer = e.getClass().getSimpleName();
        }
        past.append("    ").append(line).append(" -> ").append(answer).append('\n');
        return answer;
    }

    Desk due(String line, Object want) {
        asked++;
        String got = ask(line);
        if (!got.equals(String.valueOf(want))) {
            wrong++;
            System.out.println(spokenOf() + line + " answered " + got + ", due is " + want + "; the calls were:\n" + past);
        }
        return this;
    }

    static void same(String what, Object got, Object want) {
        asked++;
        if (!String.valueOf(got).equals(String.valueOf(want))) {
            wrong++;
            System.out.println(spokenOf() + what + " is " + got + ", due is " + want);
        }
    }

    /** The sentence of the document that is tested from now on. */
    static void speakOf(String newSentence) {
        sentence = newSentence;
    }

    private static String spokenOf() {
        return sentence.isEmpty() ? "" : "\"" + sentence + "\": ";
    }

    Desk tape(String text) {
        return words("type", text.getBytes(StandardCharsets.US_ASCII));
    }

    Desk bytes(int... values) {
        byte[] bytes = new byte[values.length];
        for (int i = 0; i < values.length; i++) {
            bytes[i] = (byte) values[i];
        }
        return words("put", bytes);
    }

    private Desk words(String call, byte[] bytes) {
        for (int at = 0; at < bytes.length; at += 8) {
            int n = Math.min(8, bytes.length - at);
            long word = 0;
            for (int i = 0; i < n; i++) {
                word = word << 8 | bytes[at + i] & 255;
            }
            due(call + " " + word + " " + n, 1);
        }
        return this;
    }

    /** The tape's code, byte by byte. */
    Desk compiles(String text, int... code) {
        tape(text).due("compile", code.length).due("fault 0", 0).due("fault 1", 0);
        for (int i = 0; i < code.length; i++) {
            due("code " + i, code[i]);
        }
        return due("code " + code.length, -1);
    }

    Desk isRefused(String text, int kind, int place) {
        return tape(text).due("compile", ARGUMENT).due("fault 0", kind).due("fault 1", place);
    }

    Desk loads(int operations, int... code) {
        return bytes(code).due("load", operations).due("fault 0", 0).due("fault 1", 0);
    }

    Desk isNotLoaded(int kind, int place, int... code) {
        return bytes(code).due("load", ARGUMENT).due("fault 0", kind).due("fault 1", place);
    }

    /** A program that is compiled and begun, with enough of all that it may need. */
    Desk ready(int parties, String text) {
        due("hall " + parties + " 77 2", 1);
        for (int kind = -3; kind < parties; kind++) {
            due("deal " + kind + " 100", 100);
        }
        return starts(text);
    }

    /** A program that is compiled and begun in the hall as it is. */
    Desk starts(String text) {
        tape(text);
        ask("compile");
        return due("fault 0", 0).due("begin", 1);
    }

    /** Rounds till nothing moves any more, however many steps that takes. */
    Desk runs() {
        ask("run 2000");
        return this;
    }

    /** The same call for each of some arguments, which end it. */
    Desk all(String call, Object want, String... ends) {
        for (String end : ends) {
            due(call + " " + end, want);
        }
        return this;
    }

    /** The clear variables of a party, from a on. */
    Desk clears(int party, long... values) {
        for (int v = 0; v < values.length; v++) {
            due("clear " + party + " " + v, values[v]);
        }
        return this;
    }

    /** All that a party has put out. */
    Desk outputs(int party, long... values) {
        due("party " + party + " 4", values.length);
        for (int k = 0; k < values.length; k++) {
            due("output " + party + " " + k, values[k]);
        }
        return this;
    }

    /** The same call for each party. */
    Desk each(int parties, String call, String rest, Object want) {
        for (int i = 0; i < parties; i++) {
            due(call + " " + i + rest, want);
        }
        return this;
    }

    static void end() {
        System.out.println(wrong == 0 ? asked + " answers are as due" : wrong + " answers are not as due");
        if (wrong != 0) {
            System.exit(1);
        }
    }
}
