/** Promise 5: the tape becomes the code; what it becomes is with "Terms", T02 to T04. */
public final class P05CompileTest {
    public static void main(String[] args) {
        Edge.of("The TAPE (which is empty then in any case) becomes the CODE", P05CompileTest::emptyInAnyCase);
        Edge.of("becomes the CODE (no RUN any more): how many bytes", P05CompileTest::howManyBytes);
        Edge.of("becomes the CODE (no RUN any more): how many bytes", P05CompileTest::noRun);
        Edge.of("IllegalArgumentException: it has a FAULT (all stays as it is)", P05CompileTest::allStays);
        Edge.of("IllegalArgumentException: it has a FAULT (all stays as it is)", P05CompileTest::partiesOfTheHall);
        Edge.end();
    }

    private static void emptyInAnyCase() {
        Desk d = new Desk();
        d.due("compile", 1).due("code 0", 0).tape(">a;").due("compile", 3).due("compile", 1);
        d.tape(">").due("compile", Desk.ARGUMENT).due("compile", 1).tape(">").due("compile", Desk.ARGUMENT).tape("a;");
        d.due("compile", Desk.ARGUMENT).due("fault 1", 1).tape("a!;").due("compile", Desk.ARGUMENT).due("compile", 1);
    }

    private static void howManyBytes() {
        Desk d = new Desk();
        d.due("compile", 1).due("total 3", 1).tape("a=1" + "+1".repeat(198) + ";").due("compile", 1992).due("total 3", 1992);
        d.tape(">a;").due("compile", 3).due("total 3", 3).due("code 2", 0).due("code 3", -1).due("code 1991", -1);
    }

    private static void noRun() {
        Desk d = new Desk().ready(2, "n<0;a=1;>a;");
        d.due("give 0 4", 1).due("step 0", 1).due("step 0", 1).due("tamper 0 5 0 1", 1).due("compile", 1).due("total 3", 1);
        d.each(2, "party", " 0", 2).each(2, "party", " 1", 0).due("party 0 11", 0).due("deliver 0 1", 0).due("step 0", 2);
        d.due("clear 0 0", Desk.ELEMENT).due("tamper 0 5 0 1", 0).due("run 9", 0).due("party 0 5", 99).due("party 0 6", 0);
        d.due("total 2", 2).due("begin", 1).due("party 0 0", 2);
    }

    private static void allStays() {
        Desk d = new Desk().ready(2, "n<0;>n;");
        d.due("give 0 4", 1).due("step 0", 1).bytes(15, 0);
        for (String wrong : new String[] {"n=", "a!;", "a=n;", "n<2;", "@1;"}) {
            d.tape(wrong).due("compile", Desk.ARGUMENT).due("total 3", 6).due("code 0", 13).due("code 4", 0).due("code 5", 0);
            d.due("party 0 1", 1).due("party 0 11", 1).due("party 0 0", 1).due("party 0 5", 99);
        }
        d.due("run 2000", 24).outputs(0, 4).outputs(1, 4).bytes(0).due("load", 2);
        Desk none = new Desk();
        none.tape("n=").due("compile", Desk.ARGUMENT).due("total 3", 0).due("code 0", -1).due("begin", 0);
    }

    private static void partiesOfTheHall() {
        Desk d = new Desk();
        d.isRefused("n<3;", 4, 2).due("hall 4 0 1", 1).compiles("n<3;", 13, 0, 3, 0).due("hall 3 0 1", 1).isRefused("n<3;", 4, 2);
    }
}
