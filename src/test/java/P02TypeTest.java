/** Promise 2: bytes go to the tape, the highest first. */
public final class P02TypeTest {
    public static void main(String[] args) {
        Desk d = new Desk();
        d.due("type " + 0x6e3d613bL + " 4", 1).due("compile", 5).due("code 1", 0).due("code 3", 0);
        d.due("type " + 0x7777777700003e61L + " 2", 1).due("type 59 1", 1).due("compile", 3).due("code 0", 15);
        for (String n : new String[] {"0", "9", "-1", "2147483647", "-2147483648"}) {
            d.due("type " + 0x3b3b3b3b3b3b3b3bL + " " + n, 0);
        }
        d.due("type 31 1", 0).due("type 127 1", 0).due("type 0 1", 0).due("type 255 1", 0);
        d.due("type " + 0x613d31ff3b3b3b3bL + " 8", 0).due("type " + 0x203bL + " 3", 0);
        d.due("compile", 1);
        d.due("type 32 1", 1).due("compile", 1);
        d.due("type 126 1", 1).due("compile", Desk.ARGUMENT).due("fault 1", 0);
        fullTape();
        Desk.end();
    }

    private static void fullTape() {
        Desk d = new Desk();
        for (int i = 0; i < 49; i++) {
            d.due("type " + 0x2020202020202020L + " 8", 1);
        }
        d.due("type " + 0x2020202020202020L + " 7", 1).due("type " + 0x3b3bL + " 2", 0);
        d.due("type " + 0x61L + " 1", 1).due("type 32 1", 0).due("type " + 0x2020202020202020L + " 8", 0);
        d.due("compile", Desk.ARGUMENT).due("fault 0", 1).due("fault 1", 400);
        d.due("type 32 1", 1).due("compile", 1);
    }
}
