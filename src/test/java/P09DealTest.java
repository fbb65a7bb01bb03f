/** Promise 9: what the dealer deals, and how much of it. */
public final class P09DealTest {
    public static void main(String[] args) {
        Edge.of("The DEALER deals n MASKS for a PARTY, or (party NONE) TRIPLES, or (-2) SQUARES, or (-3) BITS", P09DealTest::kinds);
        Edge.of("how many there are then that are not taken (of MASKS: the PARTY's; of the others those of the PARTY that has most)",
            P09DealTest::notTaken);
        Edge.of("IllegalArgumentException, dealing nothing: no such one", P09DealTest::noSuchOne);
        Edge.of("n below 0", P09DealTest::belowZero);
        Edge.of("more than 200 dealt of them in this HALL (of MASKS: for this PARTY)", P09DealTest::twoHundred);
        Edge.of("more than 200 dealt of them in this HALL (of MASKS: for this PARTY)", P09DealTest::takenOnesCount);
        Edge.of("or more than 3000 of all in all HALLS", P09DealTest::inAllHalls);
        Edge.end();
    }

    private static void kinds() {
        Desk d = new Desk();
        d.due("deal 0 3", 3).due("deal 0 2", 5).due("deal 1 1", 1).due("deal -1 4", 4).due("deal -2 6", 6).due("deal -3 7", 7);
        d.due("total 1", 4).due("total 4", 6).due("total 6", 7).due("party 0 5", 5).due("party 1 5", 1);
        d.due("deal 0 0", 5).due("deal 1 0", 1).due("deal -1 0", 4).due("deal -2 0", 6).due("deal -3 0", 7);
    }

    private static void notTaken() {
        Desk d = new Desk();
        d.due("deal 0 1", 1).due("deal -1 17", 17).due("deal -2 2", 2).due("deal -3 2", 2).due("give 0 3", 1);
        d.starts("o!;n<0;p=n*n;p=n^;G=E*F;a:n;").all("step", 1, "0", "0", "0");
        d.due("party 0 5", 0).due("deal 0 4", 4).due("deal 1 1", 1).due("total 6", 2).due("deal -1 0", 17).due("deliver 0 1", 1);
        d.due("run 5", 8).due("deal -1 0", 16).due("deal -2 0", 2).due("total 6", 1).due("deal -3 1", 2);
        d.due("run 2000", 14).due("deal -1 0", 0).due("deal -2 0", 1).due("deal -2 3", 4).due("deal -1 5", 5);
    }

    private static void noSuchOne() {
        Desk d = new Desk();
        d.all("deal", Desk.ARGUMENT, "2 1", "3 1", "4 0", "-4 1", "-4 0", "-5 1", "2147483647 1", "-2147483648 1", "2 0");
        d.due("hall 3 0 1", 1).due("deal 2 1", 1).due("deal 3 1", Desk.ARGUMENT).due("hall 4 0 1", 1).due("deal 3 1", 1);
        d.due("deal 4 1", Desk.ARGUMENT).due("total 1", 0).due("total 4", 0).due("total 6", 0).due("party 0 5", 0);
    }

    private static void belowZero() {
        Desk d = new Desk();
        d.due("deal 0 3", 3).due("deal -1 3", 3).due("deal -2 3", 3).due("deal -3 3", 3);
        for (int kind = -3; kind < 2; kind++) {
            d.all("deal " + kind, Desk.ARGUMENT, "-1", "-3", "-2147483648");
        }
        d.due("party 0 5", 3).due("party 1 5", 0).due("total 1", 3).due("total 4", 3).due("total 6", 3);
    }

    private static void twoHundred() {
        for (int kind = -3; kind < 2; kind++) {
            Desk d = new Desk();
            d.all("deal " + kind, Desk.ARGUMENT, "201", "2147483647").due("deal " + kind + " 0", 0).due("deal " + kind + " 5", 5);
            d.due("deal " + kind + " 196", Desk.ARGUMENT).due("deal " + kind + " 2147483647", Desk.ARGUMENT).due("deal " + kind + " 0", 5);
            d.due("deal " + kind + " 195", 200).due("deal " + kind + " 1", Desk.ARGUMENT).due("deal " + kind + " 0", 200);
            for (int other = -3; other < 2; other++) {
                d.due("deal " + other + " 1", other == kind ? Desk.ARGUMENT : "1");
            }
            d.due("hall 2 0 1", 1).due("deal " + kind + " 200", 200);
        }
    }

    private static void takenOnesCount() {
        Desk d = new Desk();
        d.due("deal 0 199", 199).due("deal -1 199", 199).due("deal -2 199", 199).due("deal -3 199", 199).due("give 0 3", 1);
        d.starts("n<0;o!;n=n*n;n=n^;").runs().due("deal 0 2", Desk.ARGUMENT).due("deal -1 2", Desk.ARGUMENT);
        d.due("deal -2 2", Desk.ARGUMENT).due("deal -3 2", Desk.ARGUMENT).due("begin", 1).due("deal -1 2", Desk.ARGUMENT);
        d.due("deal 0 1", 199).due("deal -1 1", 199).due("deal -2 1", 199).due("deal -3 1", 199).due("deal -3 1", Desk.ARGUMENT);
    }

    private static void inAllHalls() {
        Desk d = new Desk();
        d.due("deal 1 200", 200).due("deal -3 200", 200).due("deal 0 199", 199);
        for (int i = 0; i < 4; i++) {
            d.due("hall 2 0 1", 1).due("deal 0 200", 200).due("deal -1 200", 200).due("deal -2 199", 199);
        }
        d.due("deal -3 201", Desk.ARGUMENT).due("hall 4 0 1", 1).due("deal 3 6", Desk.ARGUMENT).due("deal 3 0", 0).due("deal -1 6", Desk.ARGUMENT);
        d.due("deal 3 5", 5).due("deal -3 1", Desk.ARGUMENT).due("deal 3 1", Desk.ARGUMENT).due("deal -3 0", 0).due("party 3 5", 5);
        d.due("hall 2 0 1", 1).due("deal 0 1", Desk.ARGUMENT).due("deal 0 0", 0).due("total 6", 0);
    }
}
