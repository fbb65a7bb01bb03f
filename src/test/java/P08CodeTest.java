/** Promise 8: the bytes of the code. */
public final class P08CodeTest {
    public static void main(String[] args) {
        Edge.of("Byte i of the CODE; NONE if there is none such", P08CodeTest::withoutCode);
        Edge.of("Byte i of the CODE; NONE if there is none such", P08CodeTest::firstAndLast);
        Edge.of("Byte i of the CODE; NONE if there is none such", P08CodeTest::otherCode);
        Edge.of("Byte i of the CODE; NONE if there is none such", P08CodeTest::mostBytes);
        Edge.end();
    }

    private static void withoutCode() {
        Desk d = new Desk();
        d.all("code", -1, "0", "-1", "1", "1999", "2000", "2147483647", "-2147483648").bytes(15, 0, 0).tape(">a;").due("code 0", -1);
        d.due("load", 2).due("code 0", 15).due("hall 2 0 1", 1).due("code 0", -1);
    }

    private static void firstAndLast() {
        int[] code = {1, 31, 255, 254, 253, 128, 127, 1, 0, 11, 12, 0};
        Desk d = new Desk().loads(3, code);
        for (int i = 0; i < code.length; i++) {
            d.due("code " + i, code[i]);
        }
        d.all("code", -1, "12", "13", "-1", "-12", "1999", "2000", "2147483647", "-2147483648");
    }

    private static void otherCode() {
        Desk d = new Desk().loads(3, 1, 0, 0, 0, 0, 0, 0, 0, 0, 11, 12, 0).compiles(">a;", 15, 0, 0);
        d.due("code 3", -1).due("code 11", -1).isRefused("n=", 1, 2).due("code 0", 15).due("begin", 1).due("code 1", 0);
    }

    private static void mostBytes() {
        int[] code = new int[2000];
        code[0] = 15;
        code[1997] = 15;
        code[1998] = 12;
        new Desk().bytes(code).due("load", 1998).due("code 0", 15).due("code 1997", 15).due("code 1998", 12).due("code 1999", 0)
            .due("code 2000", -1);
    }
}
