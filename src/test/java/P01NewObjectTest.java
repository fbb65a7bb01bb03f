/** Promise 1: two parties, seed 0, a bound of 1, nothing dealt, no code. */
public final class P01NewObjectTest {
    public static void main(String[] args) {
        Desk d = new Desk();
        d.due("total 0", 2).due("total 5", 1).due("total 1", 0).due("total 4", 0).due("total 6", 0);
        d.due("total 2", 0).due("total 3", 0).due("code 0", -1).due("begin", 0);
        d.due("fault 0", 0).due("fault 1", 0).due("party 0 5", 0).due("party 1 6", 0).due("party 2 0", -1);
        d.due("load", Desk.ARGUMENT).due("compile", 1);
        Desk.same("NONE", ShareHall.NONE, -1);
        seedIsZero();
        Desk.end();
    }

    /** What bound the coins in a new object is what binds them in a hall with seed 0. */
    private static void seedIsZero() {
        Desk first = new Desk();
        first.tape("a:n;>a;").due("compile", 6).due("begin", 1).due("run 2000", 22);
        Desk second = new Desk();
        second.due("hall 2 0 1", 1).tape("a:n;>a;").due("compile", 6).due("begin", 1).due("run 2000", 22);
        Desk other = new Desk();
        other.due("hall 2 1 1", 1).tape("a:n;>a;").due("compile", 6).due("begin", 1).due("run 2000", 22);
        int differing = 0;
        for (int k = 0; k < 32; k++) {
            String call = "bound 0 1 " + k;
            String answer = first.ask(call);
            second.due(call, answer);
            differing += other.ask(call).equals(answer) ? 0 : 1;
        }
        Desk.same("another seed binds otherwise", differing > 16, true);
    }
}
