/** Promise 6: what was put together becomes the code; what the verifier refuses is with "Terms", T05. */
public final class P06LoadTest {
    public static void main(String[] args) {
        Edge.of("What was put together (it is empty then in any case) becomes the CODE", P06LoadTest::emptyInAnyCase);
        Edge.of("becomes the CODE (no RUN any more): how many OPERATIONS", P06LoadTest::howManyOperations);
        Edge.of("becomes the CODE (no RUN any more): how many OPERATIONS", P06LoadTest::noRun);
        Edge.of("IllegalArgumentException: the VERIFIER refuses it (all stays as it is)", P06LoadTest::allStays);
        Edge.end();
    }

    private static void emptyInAnyCase() {
        Desk d = new Desk();
        d.due("load", Desk.ARGUMENT).due("fault 0", 1).due("fault 1", 0).loads(1, 0).due("load", Desk.ARGUMENT).due("code 0", 0);
        d.bytes(15, 0).due("load", Desk.ARGUMENT).due("fault 1", 2).bytes(0).due("load", 1).bytes(4, 0).due("load", Desk.ARGUMENT);
        d.due("load", Desk.ARGUMENT).due("fault 0", 1).due("fault 1", 0);
    }

    private static void howManyOperations() {
        Desk d = new Desk();
        d.loads(1, 0).due("total 3", 1).loads(4, 0, 0, 0, 0).loads(3, 1, 0, 0, 0, 0, 0, 0, 0, 0, 11, 0, 0).due("total 3", 12);
        d.loads(9, 13, 0, 0, 14, 0, 0, 17, 0, 0, 0, 18, 0, 0, 28, 0, 0, 23, 0, 0, 0, 26, 0, 0, 12, 0, 0);
        Desk most = new Desk();
        most.bytes(new int[2000]).due("load", 2000);
    }

    private static void noRun() {
        Desk d = new Desk().ready(2, "n<0;a=1;>a;");
        d.due("give 0 4", 1).due("step 0", 1).due("step 0", 1).loads(2, 15, 3, 0).due("total 3", 3).due("code 1", 3);
        d.each(2, "party", " 0", 2).each(2, "party", " 1", 0).due("party 0 11", 0).due("deliver 0 1", 0).due("step 0", 2);
        d.due("clear 0 0", Desk.ELEMENT).due("run 9", 0).due("party 0 5", 99).due("total 2", 2);
        d.due("begin", 1).due("run 9", 2).outputs(1, 0);
    }

    private static void allStays() {
        Desk d = new Desk().ready(2, "n<0;>n;");
        d.due("give 0 4", 1).due("step 0", 1).tape(">a");
        d.isNotLoaded(1, 0).due("total 3", 6).due("party 0 1", 1).isNotLoaded(1, 0, 99).due("code 0", 13).due("party 0 11", 1);
        d.isNotLoaded(2, 0, 18, 9, 9, 0).due("total 3", 6).isNotLoaded(3, 0, 4, 0).due("party 0 0", 1).due("party 0 5", 99);
        d.due("run 2000", 24).outputs(0, 4).outputs(1, 4).tape(";").due("compile", 3);
        new Desk().isNotLoaded(3, 0, 4, 0).due("total 3", 0).due("code 0", -1).due("begin", 0);
    }
}
