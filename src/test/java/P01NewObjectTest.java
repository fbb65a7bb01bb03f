/** Promise 1: a new object. */
public final class P01NewObjectTest {
    public static void main(String[] args) {
        Edge.of("Two PARTIES, SEED 0, a BOUND of 1, nothing dealt, no CODE", P01NewObjectTest::twoParties);
        Edge.of("Two PARTIES, SEED 0, a BOUND of 1, nothing dealt, no CODE", P01NewObjectTest::seedIsZero);
        Edge.of("Two PARTIES, SEED 0, a BOUND of 1, nothing dealt, no CODE", P01NewObjectTest::boundOfOne);
        Edge.of("Two PARTIES, SEED 0, a BOUND of 1, nothing dealt, no CODE", P01NewObjectTest::nothingDealt);
        Edge.of("Two PARTIES, SEED 0, a BOUND of 1, nothing dealt, no CODE", P01NewObjectTest::noCode);
        Edge.of("public static final int NONE = -1", () -> Desk.same("NONE", ShareHall.NONE, -1));
        Edge.of("An object is used for at most 512 calls after it has been made", P01NewObjectTest::manyCalls);
        Edge.end();
    }

    private static void twoParties() {
        Desk d = new Desk();
        d.due("total 0", 2).each(2, "party", " 0", 2).due("party 2 0", -1).due("give 1 5", 1).due("give 2 5", 0);
        d.due("step 1", 2).due("step 2", Desk.INDEX).due("deal 2 1", Desk.ARGUMENT).isRefused("n<2;", 4, 2);
    }

    /** What bound the coins in a new object is what binds them in a hall with seed 0. */
    private static void seedIsZero() {
        Desk first = new Desk().starts("a:n;>a;").due("run 2000", 22);
        Desk second = new Desk().due("hall 2 0 1", 1).starts("a:n;>a;").due("run 2000", 22);
        Desk other = new Desk().due("hall 2 1 1", 1).starts("a:n;>a;").due("run 2000", 22);
        int differing = 0;
        for (int k = 0; k < 32; k++) {
            String call = "bound 0 1 " + k;
            String answer = first.ask(call);
            second.due(call, answer);
            differing += other.ask(call).equals(answer) ? 0 : 1;
        }
        Desk.same("another seed binds otherwise", differing > 16, true);
    }

    private static void boundOfOne() {
        Desk d = new Desk();
        d.due("total 5", 1).due("deal 0 2", 2).due("give 0 1", 1).due("give 0 2", 1).starts("n<0;n<0;");
        d.all("step", 1, "0", "0").due("step 0", 0).due("party 0 11", 1).due("deliver 0 1", 1).due("step 0", 1);
    }

    private static void nothingDealt() {
        Desk d = new Desk();
        d.due("total 1", 0).due("total 4", 0).due("total 6", 0).each(2, "party", " 5", 0).each(2, "party", " 6", 0);
        d.due("deal 0 0", 0).due("deal -1 0", 0).due("deal -2 0", 0).due("deal -3 0", 0);
        d.starts("n!;").due("step 0", 4).starts("n=n*n;").due("step 0", 4).starts("n=n^;").due("step 0", 4);
    }

    private static void noCode() {
        Desk d = new Desk();
        d.due("total 3", 0).due("code 0", -1).due("begin", 0).due("step 0", 2).due("run 5", 0).due("total 2", 0);
        d.due("fault 0", 0).due("fault 1", 0).due("load", Desk.ARGUMENT).due("compile", 1).due("begin", 1);
    }

    private static void manyCalls() {
        Desk d = new Desk().starts("a:n;*b[]");
        for (int i = 0; i < 505; i++) {
            d.due("party 0 0", 1);
        }
        d.due("step 0", 1);
    }
}
