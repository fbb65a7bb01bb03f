/** Promise 2: bytes go to the tape, the highest first. */
public final class P02TypeTest {
    public static void main(String[] args) {
        Edge.of("The n (1 .. 8) lowest bytes of word, the highest first, go to the TAPE: true", P02TypeTest::lowestBytes);
        Edge.of("false, changing nothing, for another n, a byte that is not 32 .. 126", P02TypeTest::anotherN);
        Edge.of("false, changing nothing, for another n, a byte that is not 32 .. 126", P02TypeTest::otherBytes);
        Edge.of("or if it would have more than 400", P02TypeTest::fullTape);
        Edge.of("or if it would have more than 400", P02TypeTest::emptyAgain);
        Edge.end();
    }

    /** For each n the same text comes out, whatever stands in the bytes above. */
    private static void lowestBytes() {
        String text = "a=12345+b*(c-d);>a;b=3+4;";
        for (int n = 1; n <= 8; n++) {
            Desk d = new Desk();
            for (int at = 0; at < text.length(); at += n) {
                String part = text.substring(at, Math.min(at + n, text.length()));
                long word = at % 2 == 0 ? -1 : 0x0102030405060708L;
                for (char c : part.toCharArray()) {
                    word = word << 8 | c;
                }
                d.due("type " + word + " " + part.length(), 1);
            }
            d.due("compile", 9 + 2 + 2 + 2 + 1 + 1 + 1 + 2 + 2 + 21 + 1).due("code 7", 48).due("code 8", 57).due("code 10", 1);
        }
        new Desk().due("type " + 0x6e3d613bL + " 4", 1).due("compile", 5).due("code 1", 0).due("code 3", 0);
    }

    private static void anotherN() {
        Desk d = new Desk();
        d.tape("a=");
        for (String n : new String[] {"0", "9", "-1", "16", "2147483647", "-2147483648", "-8"}) {
            d.due("type " + 0x3b3b3b3b3b3b3b3bL + " " + n, 0);
        }
        d.tape("1;").due("compile", 12).due("fault 0", 0);
    }

    private static void otherBytes() {
        Desk d = new Desk();
        d.tape("a=");
        for (int wrong : new int[] {0, 1, 9, 10, 31, 127, 128, 160, 255}) {
            d.due("type " + wrong + " 1", 0).due("type " + (0x3100L + wrong) + " 2", 0).due("type " + (wrong * 256L + 0x3b) + " 2", 0);
            d.due("type " + ((long) wrong << 56 | 0x20202020202020L) + " 8", 0).due("type " + (0x2020202000202020L | (long) wrong << 24) + " 8", 0);
        }
        d.due("type 59 3", 0).tape("1;").due("compile", 12);
        d.due("type 32 1", 1).due("compile", 1).due("type 126 1", 1).due("compile", Desk.ARGUMENT).due("fault 0", 1).due("fault 1", 0);
        d.due("type " + 0x7f1f203eL + " 2", 1).due("compile", Desk.ARGUMENT).due("fault 1", 2);
    }

    private static void fullTape() {
        Desk d = new Desk();
        for (int i = 0; i < 49; i++) {
            d.due("type " + 0x2020202020202020L + " 8", 1);
        }
        d.due("type 32 1", 1).due("type " + 0x2020202020202020L + " 8", 0).due("type " + 0x20202020202020L + " 7", 1);
        d.due("type 32 1", 0).due("type " + 0x3b3bL + " 2", 0).due("compile", 1);
        for (int i = 0; i < 49; i++) {
            d.due("type " + 0x2020202020202020L + " 8", 1);
        }
        d.due("type " + 0x20202020202020L + " 7", 1).due("type " + 0x3b3bL + " 2", 0).due("type " + 0x61L + " 1", 1).due("type 32 1", 0);
        d.due("type " + 0x2020202020202020L + " 8", 0).due("compile", Desk.ARGUMENT).due("fault 0", 1).due("fault 1", 400);
    }

    private static void emptyAgain() {
        Desk d = new Desk();
        d.tape("n!;".repeat(133) + ">").due("type 32 1", 0).due("compile", Desk.ARGUMENT);
        d.tape("n!;".repeat(133) + " ").due("type 32 1", 0).due("compile", 267).tape(" ".repeat(400)).due("type 32 1", 0);
        d.due("hall 2 0 1", 1).due("type 32 1", 0).due("compile", 1).due("type 32 1", 1);
    }
}
