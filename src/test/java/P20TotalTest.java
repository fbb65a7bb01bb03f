/** Promise 20: what is asked of all. */
public final class P20TotalTest {
    public static void main(String[] args) {
        Desk d = new Desk();
        for (String none : new String[] {"-1", "7", "8", "2147483647", "-2147483648"}) {
            d.due("total " + none, -1);
        }
        d.due("hall 4 0 3", 1).due("total 0", 4).due("total 5", 3);
        d.due("deal -1 20", 20).due("deal -2 7", 7).due("deal -3 9", 9).due("total 1", 20).due("total 4", 7).due("total 6", 9);
        d.tape("n!;n=n*n;n=n^;E=E*E;").due("compile", 19).due("total 3", 19).due("begin", 1).due("total 2", 0);
        d.due("step 0", 1).due("total 2", 1).due("total 6", 9).due("run 1", 4).due("total 6", 8).due("total 1", 20);
        d.due("run 3", 11).due("total 1", 19).due("total 2", 16).due("total 4", 7);
        d.ask("run 2000");
        d.due("total 1", 3).due("total 4", 6).due("total 2", 36).due("begin", 1).due("total 1", 3).due("total 2", 36);
        d.due("hall 2 0 1", 1).due("total 2", 36).due("total 3", 0).due("total 0", 2).due("total 5", 1).due("total 1", 0);
        whoHasMost();
        Desk.end();
    }

    /** Whichever party it is that has most. */
    private static void whoHasMost() {
        for (int behind = 0; behind < 3; behind++) {
            Desk d = new Desk();
            d.due("hall 3 0 1", 1).due("deal -1 5", 5).due("deal -2 5", 5).due("deal -3 5", 5);
            d.tape("n!;n=n*n;").due("compile", 10).due("begin", 1);
            for (int i = 0; i < 6; i++) {
                if (i % 3 != behind) {
                    d.due("step " + i % 3, 1);
                }
            }
            d.due("total 1", 5).due("total 6", 5).due("deal -1 1", 6).due("deal -3 0", 5).due("step " + behind, 1);
            d.due("total 6", 4).due("total 1", 6).due("step " + behind, 1).due("total 1", 5);
        }
    }
}
