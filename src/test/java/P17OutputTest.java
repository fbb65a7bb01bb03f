/** Promise 17: what was put out. */
public final class P17OutputTest {
    public static void main(String[] args) {
        Desk d = new Desk();
        d.due("output 0 0", Desk.ELEMENT);
        d.ready(3, "a=1;>a;a=2;>a;n<0;>n;>a;");
        d.due("give 0 -5", 1).due("output 0 0", Desk.ELEMENT).due("run 2", 6).due("output 0 0", 1).due("output 2 0", 1);
        d.due("output 0 1", Desk.ELEMENT);
        d.ask("run 2000");
        d.each(3, "output", " 1", 2).each(3, "output", " 2", Desk.P - 5).each(3, "output", " 3", 2);
        for (String none : new String[] {"0 4", "0 -1", "0 2147483647", "0 -2147483648", "3 0", "-1 0", "2147483647 0"}) {
            d.due("output " + none, Desk.ELEMENT);
        }
        d.due("begin", 1).due("output 0 0", Desk.ELEMENT).due("compile", 1).due("output 0 0", Desk.ELEMENT);
        many();
        Desk.end();
    }

    private static void many() {
        Desk d = new Desk();
        d.loads(5, 2, 0, 1, 0, 0, 0, 0, 0, 0, 0, 1, 4, 11, 0, 0).tape("a=1;*a[>a;a=a+1;]").due("compile", 35);
        d.due("begin", 1);
        for (int i = 0; i < 7; i++) {
            d.due("run 2000", 4000);
        }
        d.due("run 2000", 2000).due("party 0 4", 3000).due("party 1 4", 3000);
        for (int k : new int[] {0, 1, 15, 16, 17, 31, 32, 33, 1000, 2047, 2048, 2998, 2999}) {
            d.due("output 0 " + k, k + 1).due("output 1 " + k, k + 1);
        }
        d.due("output 0 3000", Desk.ELEMENT);
    }
}
