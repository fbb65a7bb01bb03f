/** Promise 4: a new hall, and what stays and what is no more. */
public final class P04HallTest {
    public static void main(String[] args) {
        Desk d = new Desk();
        d.due("hall 3 5 4", 1).due("total 0", 3).due("total 5", 4).due("party 2 0", 2).due("party 3 0", -1);
        for (String wrong : new String[] {"1 0 1", "5 0 1", "2 0 0", "2 0 5", "-2147483648 0 1", "2147483647 0 1",
            "2 0 -2147483648", "2 0 2147483647", "0 0 0"}) {
            d.due("hall " + wrong, 0);
        }
        d.due("total 0", 3).due("total 5", 4);
        d.due("hall 4 " + Long.MIN_VALUE + " 1", 1).due("hall 2 " + Long.MAX_VALUE + " 1", 1);
        whatIsNoMore();
        falseChangesNothing();
        threeHundred();
        Desk.end();
    }

    private static void whatIsNoMore() {
        Desk d = new Desk().ready(2, "n!;n<0;a:n;>a;");
        d.due("give 0 5", 1).due("run 3", 5).due("total 6", 99).due("party 0 5", 99).due("party 0 11", 0);
        d.due("party 1 20", 0).due("party 1 1", 2);
        d.tape(">a;").bytes(15, 0, 0);
        d.due("tamper 0 9 0 1", 1);
        d.due("hall 2 77 1", 1);
        d.due("total 1", 0).due("total 4", 0).due("total 6", 0).due("party 0 5", 0).due("party 0 6", 0);
        d.due("total 3", 0).due("code 0", -1).due("begin", 0).due("total 2", 5);
        d.due("party 0 0", 2).due("party 0 1", 0).due("step 0", 2).due("clear 0 0", Desk.ELEMENT);
        d.due("deal 0 200", 200).due("deal -1 200", 200);
        d.due("compile", 3).due("load", 2).due("begin", 1).due("run 10", 2);
    }

    private static void falseChangesNothing() {
        Desk d = new Desk().ready(3, "n<0;>n;");
        d.due("give 0 9", 1).due("hall 5 0 1", 0).due("hall 3 0 9", 0).due("total 3", 6).due("run 2000", 37);
        d.each(3, "output", " 0", 9);
    }

    private static void threeHundred() {
        Desk d = new Desk();
        d.due("hall 9 9 9", 0);
        for (int i = 0; i < 300; i++) {
            d.due("hall " + (2 + i % 3) + " " + i + " 2", 1);
        }
        d.due("deal 0 7", 7).due("hall 2 0 1", 0).due("total 0", 4).due("total 5", 2).due("party 0 5", 7);
    }
}
