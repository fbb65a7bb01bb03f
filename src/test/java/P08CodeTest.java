/** Promise 8: the bytes of the code. */
public final class P08CodeTest {
    public static void main(String[] args) {
        Desk d = new Desk();
        d.due("code 0", -1).due("code -1", -1);
        d.loads(3, 1, 31, 255, 254, 253, 128, 127, 1, 0, 11, 12, 0);
        int[] code = {1, 31, 255, 254, 253, 128, 127, 1, 0, 11, 12, 0};
        for (int i = 0; i < code.length; i++) {
            d.due("code " + i, code[i]);
        }
        d.due("code 12", -1).due("code -1", -1).due("code 2147483647", -1).due("code -2147483648", -1);
        d.compiles(">a;", 15, 0, 0).due("code 3", -1).due("code 11", -1);
        d.due("hall 2 0 1", 1).due("code 0", -1);
        Desk.end();
    }
}
