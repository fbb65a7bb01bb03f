/** Promise 10: inputs, taken in order and modulo P. */
public final class P10GiveTest {
    public static void main(String[] args) {
        Desk d = new Desk();
        d.due("give 0 1", 1).due("give 1 1", 1).due("give 2 1", 0).due("give -1 1", 0).due("give 2147483647 1", 0);
        d.due("party 0 6", 1).due("party 1 6", 1);
        for (int i = 1; i < 100; i++) {
            d.due("give 1 " + i, 1);
        }
        d.due("give 1 5", 0).due("party 1 6", 100).due("give 0 5", 1).due("party 0 6", 2);
        d.due("hall 2 0 1", 1).due("party 1 6", 0).due("give 1 5", 1);
        order();
        longs();
        takenOnesCount();
        Desk.end();
    }

    private static void order() {
        Desk d = new Desk().ready(3, "n<2;o<0;p<2;>n;>o;>p;");
        d.due("give 2 10", 1).due("give 2 11", 1).due("give 2 12", 1).due("give 0 20", 1).due("give 0 21", 1);
        d.ask("run 2000");
        d.each(3, "output", " 0", 10).each(3, "output", " 1", 20).each(3, "output", " 2", 11);
        d.due("party 2 6", 1).due("party 0 6", 1).due("party 1 6", 0).due("party 2 5", 98).due("party 0 5", 99);
        d.due("give 2 30", 1).due("begin", 1);
        d.ask("run 2000");
        d.each(3, "output", " 0", 12).each(3, "output", " 1", 21).each(3, "output", " 2", 30);
    }

    private static void longs() {
        long[] given = {-1, Desk.P, Desk.P - 1, Desk.P + 1, Long.MAX_VALUE, Long.MIN_VALUE, 0, 2 * Desk.P, -Desk.P};
        Desk d = new Desk().ready(2, "n<0;>n;");
        for (long v : given) {
            d.due("give 0 " + v, 1);
            d.ask("begin");
            d.ask("run 2000");
            d.each(2, "output", " 0", Math.floorMod(v, Desk.P));
        }
    }

    private static void takenOnesCount() {
        Desk d = new Desk().ready(2, "n<0;");
        for (int i = 0; i < 100; i++) {
            d.due("give 0 " + i, 1);
        }
        d.due("step 0", 1).due("party 0 6", 99).due("give 0 5", 0).due("begin", 1).due("give 0 5", 0);
    }
}
