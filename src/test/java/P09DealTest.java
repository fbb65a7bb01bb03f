/** Promise 9: what the dealer deals, and how much of it. */
public final class P09DealTest {
    public static void main(String[] args) {
        Desk d = new Desk();
        d.due("deal 0 3", 3).due("deal 0 2", 5).due("deal 1 1", 1).due("deal -1 4", 4).due("deal -2 6", 6);
        d.due("deal -3 7", 7).due("deal -3 0", 7).due("deal 0 0", 5);
        d.due("total 1", 4).due("total 4", 6).due("total 6", 7).due("party 0 5", 5).due("party 1 5", 1);
        for (String wrong : new String[] {"2 1", "-4 1", "2147483647 1", "-2147483648 1", "4 0", "0 -1", "-1 -1",
            "-3 -2147483648", "0 196", "-1 197", "-2 195", "-3 194", "0 2147483647", "-1 2147483647"}) {
            d.due("deal " + wrong, Desk.ARGUMENT);
        }
        d.due("deal 0 195", 200).due("deal -1 196", 200).due("deal -2 194", 200).due("deal -3 193", 200);
        d.due("deal 0 1", Desk.ARGUMENT).due("deal 0 0", 200).due("deal -1 1", Desk.ARGUMENT);
        taken();
        inAllHalls();
        Desk.end();
    }

    /** Those that were taken still count as dealt; of shares, the party counts that has most. */
    private static void taken() {
        Desk d = new Desk();
        d.due("deal 0 1", 1).due("deal -1 17", 17).due("deal -2 2", 2).due("deal -3 2", 2).due("give 0 3", 1);
        d.tape("o!;n<0;p=n*n;p=n^;G=E*F;a:n;").due("compile", 25).due("begin", 1);
        for (int i = 0; i < 3; i++) {
            d.due("step 0", 1);
        }
        d.due("party 0 5", 0).due("deal 0 4", 4).due("total 6", 2).due("total 1", 17).due("deal -1 0", 17);
        d.due("deliver 0 1", 1).due("deliver 0 1", 0);
        d.due("run 5", 8).due("deal -1 0", 16).due("deal -2 0", 2).due("total 6", 1).due("deal -3 1", 2);
        d.due("run 2000", 14).due("deal -1 0", 0).due("deal -2 0", 1).due("deal -2 3", 4).due("deal -2 196", Desk.ARGUMENT);
        d.due("deal -2 195", 199).due("deal 0 195", 199).due("deal 0 1", Desk.ARGUMENT);
    }

    private static void inAllHalls() {
        Desk d = new Desk();
        for (int i = 0; i < 5; i++) {
            d.due("hall 2 0 1", 1).due("deal 0 200", 200).due("deal -1 200", 200).due("deal -2 199", 199);
        }
        d.due("hall 4 0 1", 1).due("deal 3 6", Desk.ARGUMENT).due("deal 3 0", 0).due("deal 3 5", 5);
        d.due("deal -3 1", Desk.ARGUMENT).due("deal -3 0", 0).due("hall 2 0 1", 1).due("deal 0 1", Desk.ARGUMENT);
    }
}
