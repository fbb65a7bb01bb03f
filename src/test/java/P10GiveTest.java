/** Promise 10: inputs, taken in order. */
public final class P10GiveTest {
    public static void main(String[] args) {
        Edge.of("An input for a PARTY, behind those it has: true", P10GiveTest::order);
        Edge.of("An input for a PARTY, behind those it has: true", P10GiveTest::amidARun);
        Edge.of("false if there is no such PARTY", P10GiveTest::noSuchParty);
        Edge.of("or it was given 100 in this HALL", P10GiveTest::hundred);
        Edge.of("or it was given 100 in this HALL", P10GiveTest::takenOnesCount);
        Edge.end();
    }

    private static void order() {
        Desk d = new Desk().ready(3, "n<2;o<0;p<2;>n;>o;>p;");
        d.due("give 2 10", 1).due("give 2 11", 1).due("give 2 12", 1).due("give 0 20", 1).due("give 0 21", 1).runs();
        d.each(3, "output", " 0", 10).each(3, "output", " 1", 20).each(3, "output", " 2", 11);
        d.due("party 2 6", 1).due("party 0 6", 1).due("party 1 6", 0).due("party 2 5", 98).due("party 0 5", 99);
        d.due("give 2 30", 1).due("begin", 1).runs();
        d.each(3, "output", " 0", 12).each(3, "output", " 1", 21).each(3, "output", " 2", 30);
    }

    private static void amidARun() {
        Desk d = new Desk().ready(2, "n<1;a:n;n<1;b:n;");
        d.due("give 1 5", 1).due("step 1", 1).due("party 1 6", 0).due("give 1 6", 1).due("party 1 6", 1).runs().clears(0, 5, 6);
        d.due("begin", 1).due("give 1 7", 1).due("give 1 8", 1).runs().clears(0, 7, 8);
    }

    private static void noSuchParty() {
        Desk d = new Desk();
        d.all("give", 0, "2 1", "3 1", "4 1", "-1 1", "2147483647 1", "-2147483648 1").each(2, "party", " 6", 0);
        d.due("give 0 1", 1).due("give 1 1", 1).due("hall 3 0 1", 1).due("give 2 1", 1).due("give 3 1", 0).due("party 2 6", 1);
    }

    private static void hundred() {
        Desk d = new Desk();
        for (int i = 0; i < 100; i++) {
            d.due("give 1 " + i, 1);
        }
        d.due("party 1 6", 100).due("give 1 5", 0).due("give 1 5", 0).due("party 1 6", 100).due("give 0 5", 1).due("party 0 6", 1);
        d.due("compile", 1).due("begin", 1).due("give 1 5", 0).due("hall 2 0 1", 1).due("party 1 6", 0).due("give 1 5", 1);
    }

    private static void takenOnesCount() {
        Desk d = new Desk().ready(2, "n<0;*a[]b=100;*b[n<0;b=b-1;]");
        for (int i = 0; i < 99; i++) {
            d.due("give 0 " + i, 1);
        }
        d.due("step 0", 1).due("party 0 6", 98).due("give 0 99", 1).due("give 0 5", 0).due("begin", 1).due("give 0 5", 0);
        d.due("party 0 6", 99).due("party 0 5", 99).runs().due("party 0 6", 0).due("give 0 5", 0).due("party 0 7", 1);
    }
}
