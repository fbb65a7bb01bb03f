/** Promise 3: bytes come behind the code that is being put together. */
public final class P03PutTest {
    public static void main(String[] args) {
        Edge.of("The n (1 .. 8) lowest bytes of word, the highest first, come behind the CODE that is being put together: true",
            P03PutTest::lowestBytes);
        Edge.of("false, changing nothing, for another n, or if it would have more than 2000", P03PutTest::anotherN);
        Edge.of("false, changing nothing, for another n, or if it would have more than 2000", P03PutTest::fullRow);
        Edge.of("false, changing nothing, for another n, or if it would have more than 2000", P03PutTest::emptyAgain);
        Edge.end();
    }

    /** For each n the same code comes out, of all values that a byte can have. */
    private static void lowestBytes() {
        int[] code = {1, 31, 255, 128, 127, 0, 1, 254, 129, 11, 12, 15, 12, 0};
        for (int n = 1; n <= 8; n++) {
            Desk d = new Desk();
            for (int at = 0; at < code.length; at += n) {
                int size = Math.min(n, code.length - at);
                long word = at % 2 == 0 ? -1 : 0x0102030405060708L;
                for (int i = 0; i < size; i++) {
                    word = word << 8 | code[at + i];
                }
                d.due("put " + word + " " + size, 1);
            }
            d.due("load", 4).due("total 3", code.length);
            for (int i = 0; i < code.length; i++) {
                d.due("code " + i, code[i]);
            }
        }
        new Desk().due("put -1 8", 1).due("load", Desk.ARGUMENT).due("fault 0", 1).due("fault 1", 0);
        new Desk().due("put 15 1", 1).due("put 0 1", 1).due("put 0 1", 1).due("load", 2).due("code 0", 15);
    }

    private static void anotherN() {
        Desk d = new Desk();
        d.bytes(15, 3);
        for (String n : new String[] {"0", "9", "-1", "16", "2147483647", "-2147483648", "-8"}) {
            d.due("put 7 " + n, 0);
        }
        d.bytes(0).due("load", 2).due("total 3", 3).due("code 1", 3);
    }

    private static void fullRow() {
        Desk d = new Desk();
        for (int i = 0; i < 249; i++) {
            d.due("put 0 8", 1);
        }
        d.due("put 0 1", 1).due("put -1 8", 0).due("put 0 6", 1).due("put -1 2", 0).due("put 0 1", 1).due("put -1 1", 0).due("put -1 8", 0);
        d.due("load", 2000).due("total 3", 2000).due("code 1999", 0).due("code 2000", -1);
    }

    private static void emptyAgain() {
        Desk d = new Desk();
        for (int i = 0; i < 249; i++) {
            d.due("put -1 8", 1);
        }
        d.due("put -1 8", 1).due("put 0 1", 0).due("hall 2 0 1", 1).due("compile", 1).due("put 0 1", 0).due("load", Desk.ARGUMENT);
        d.due("put 0 8", 1).due("load", 8).due("put 0 1", 1).due("load", 1);
    }
}
