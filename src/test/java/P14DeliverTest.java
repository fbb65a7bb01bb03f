/** Promise 14: mails come one by one, in their order, when they are delivered. */
public final class P14DeliverTest {
    public static void main(String[] args) {
        Desk d = new Desk();
        d.due("deliver 0 1", 0).tape("a:n;").due("compile", 4).due("deliver 0 1", 0).due("begin", 1);
        for (String none : new String[] {"0 0", "0 2", "2 0", "-1 0", "0 -1", "2147483647 0", "0 -2147483648", "1 1"}) {
            d.due("step 0", none.equals("0 0") ? 1 : 0).due("deliver " + none, 0);
        }
        d.due("deliver 1 0", 0).due("deliver 0 1", 1).due("deliver 0 1", 0).due("party 1 20", 1).due("step 1", 1);
        d.due("step 1", 1).due("party 1 20", 0).due("deliver 1 0", 1).due("step 0", 1).due("party 0 0", 2);
        d.due("compile", 1).due("deliver 0 1", 0);
        order();
        noticeComesLast();
        toOneThatHasEnded();
        Desk.end();
    }

    private static void order() {
        Desk d = new Desk().ready(2, "n<0;o<0;a:n;b:o;");
        d.due("give 0 5", 1).due("give 0 6", 1);
        for (int i = 0; i < 4; i++) {
            d.due("step 0", 1);
        }
        d.due("party 0 11", 2).due("step 0", 0).due("deliver 0 1", 1).due("step 1", 1).due("step 1", 0);
        d.due("deliver 0 1", 1).due("step 1", 1).due("run 2000", 8).each(2, "clear", " 0", 5).each(2, "clear", " 1", 6);
    }

    private static void noticeComesLast() {
        Desk d = new Desk();
        d.due("hall 2 3 1", 1).tape("a:n;>a;").due("compile", 6).due("begin", 1).due("tamper 0 0 0 1", 1);
        d.due("run 8", 16).due("step 0", 1).due("step 1", 1).due("deliver 1 0", 1).due("step 0", 3);
        d.due("party 0 11", 2).due("step 1", 0).due("deliver 0 1", 1).due("party 1 20", 1).due("party 0 11", 1);
        d.due("deliver 0 1", 1).due("party 1 20", 1).due("party 0 11", 0).due("deliver 0 1", 0).due("step 1", 3);
        d.due("party 1 9", 2).due("party 1 20", 1);
    }

    private static void toOneThatHasEnded() {
        Desk d = new Desk().ready(2, "n<0;n=n*n;");
        d.due("give 0 5", 1).due("step 0", 1).due("step 0", 1).due("step 0", 1).due("deliver 0 1", 1).due("step 1", 1);
        d.due("deliver 0 1", 1).due("deliver 0 1", 0).due("party 1 20", 1);
        Desk lacking = new Desk();
        lacking.due("deal 0 1", 1).due("give 0 5", 1).tape("@1;@1[m=A[99];]n<0;").due("compile", 24).due("begin", 1);
        lacking.due("step 1", 1).due("step 1", 4).due("deliver 0 1", 0);
        Desk ended = new Desk();
        ended.due("hall 2 3 1", 1).due("deal 1 1", 1).due("give 1 5", 1).due("give 0 5", 1).due("deal -3 1", 1);
        ended.tape("n!;n<1;").due("compile", 6).due("begin", 1).due("step 0", 1).due("step 1", 1).due("step 1", 1);
        ended.due("step 1", 1).due("party 1 0", 2).due("deliver 1 0", 1).due("step 0", 1).due("party 0 0", 2);
    }
}
