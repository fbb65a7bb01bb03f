/** Promise 3: bytes come behind the code that is being put together. */
public final class P03PutTest {
    public static void main(String[] args) {
        Desk d = new Desk();
        d.due("put " + 0x0200L + " 2", 1).due("put " + 0xffffff0b05L + " 2", 1).due("put 0 1", 1);
        d.due("load", 3).due("code 0", 2).due("code 1", 0).due("code 2", 11).due("code 3", 5).due("code 4", 0);
        for (String n : new String[] {"0", "9", "-1", "2147483647", "-2147483648"}) {
            d.due("put 7 " + n, 0);
        }
        d.due("load", Desk.ARGUMENT).due("fault 0", 1).due("fault 1", 0);
        d.due("put -1 8", 1).due("load", Desk.ARGUMENT).due("fault 1", 0);
        fullRow();
        Desk.end();
    }

    private static void fullRow() {
        Desk d = new Desk();
        for (int i = 0; i < 249; i++) {
            d.due("put 0 8", 1);
        }
        d.due("put 0 7", 1).due("put 0 2", 0).due("put 0 1", 1).due("put 0 1", 0).due("put 0 8", 0);
        d.due("load", 2000).due("total 3", 2000).due("code 1999", 0).due("code 2000", -1);
        d.due("put 0 8", 1).due("load", 8);
    }
}
