/** Promise 7: the latest fault; which faults there are is with "Terms", T03 and T05. */
public final class P07FaultTest {
    public static void main(String[] args) {
        Edge.of("The FAULT of the latest compile() or load(), what 0: its kind (0 without), 1: its place", P07FaultTest::latest);
        Edge.of("of load(): where the OPERATION begins; the CODE's length, if there is no 0 at its end; 0 without", P07FaultTest::ofLoad);
        Edge.of("Both are 0 ahead of any; hall() changes nothing of that", P07FaultTest::aheadOfAny);
        Edge.of("Both are 0 ahead of any; hall() changes nothing of that", P07FaultTest::hallChangesNothing);
        Edge.of("NONE for another what", P07FaultTest::anotherWhat);
        Edge.end();
    }

    private static void latest() {
        Desk d = new Desk();
        d.isRefused("n<7;", 4, 2).isRefused("n=1+;", 1, 4).isRefused("   a!;", 2, 3).isRefused("n=A[n];", 3, 3).isRefused(">a;@1;", 5, 3);
        d.isNotLoaded(2, 1, 0, 18, 9, 9, 0).isRefused("a", 1, 1).isNotLoaded(3, 2, 15, 0, 4, 0).isNotLoaded(1, 0);
        d.isRefused("a<7;", 2, 0).due("compile", 1).due("fault 0", 0).due("fault 1", 0);
        d.isRefused("n<7;", 4, 2).loads(1, 0).isNotLoaded(3, 1, 0, 4, 0).tape(">a;").due("compile", 3).due("fault 0", 0).due("fault 1", 0);
        d.isRefused("n<7;", 4, 2).due("begin", 1).due("run 9", 2).due("deal 0 1", 1).due("give 0 1", 1).due("type 32 1", 1);
        d.due("put 32 1", 1).due("fault 0", 4).due("fault 1", 2);
    }

    private static void ofLoad() {
        Desk d = new Desk();
        d.isNotLoaded(1, 3, 13, 0, 0).isNotLoaded(1, 4, 0, 13, 0, 0).isNotLoaded(1, 1, 0, 13, 0).isNotLoaded(1, 1, 0, 13, 0, 9, 0).isNotLoaded(1, 9, 1, 0, 0, 0, 0, 0, 0, 0, 0);
        d.isNotLoaded(1, 0).isNotLoaded(2, 3, 14, 0, 0, 17, 0, 0, 1, 0).isNotLoaded(3, 9, 1, 0, 0, 0, 0, 0, 0, 0, 0, 0).loads(1, 0);
        Desk most = new Desk();
        most.bytes(T05VerifierTest.repeat(1000, 15, 0)).due("load", Desk.ARGUMENT).due("fault 0", 1).due("fault 1", 2000);
    }

    private static void aheadOfAny() {
        new Desk().due("fault 0", 0).due("fault 1", 0).due("hall 3 0 1", 1).due("fault 0", 0).due("fault 1", 0).tape("n=").bytes(4)
            .due("begin", 0).due("fault 0", 0).due("fault 1", 0);
    }

    private static void hallChangesNothing() {
        Desk d = new Desk();
        d.isRefused("n<7;", 4, 2).due("hall 2 0 1", 1).due("fault 0", 4).due("fault 1", 2).due("hall 9 0 1", 0).due("fault 0", 4);
        d.isNotLoaded(2, 1, 0, 18, 9, 9, 0).due("hall 4 0 4", 1).due("fault 0", 2).due("fault 1", 1).loads(1, 0).due("hall 2 0 1", 1);
        d.due("fault 0", 0).due("fault 1", 0);
    }

    private static void anotherWhat() {
        Desk d = new Desk();
        String[] others = {"2", "-1", "3", "10", "2147483647", "-2147483648"};
        d.all("fault", -1, others).isRefused("n<7;", 4, 2).all("fault", -1, others);
    }
}
