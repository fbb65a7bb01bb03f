/** Promise 14: mails come one by one, in their order, when they are delivered. */
public final class P14DeliverTest {
    public static void main(String[] args) {
        Edge.of("The oldest MAIL (or NOTICE) on the WIRE from one PARTY to another is delivered: true", P14DeliverTest::order);
        Edge.of("The oldest MAIL (or NOTICE) on the WIRE from one PARTY to another is delivered: true", P14DeliverTest::noticeComesLast);
        Edge.of("The oldest MAIL (or NOTICE) on the WIRE from one PARTY to another is delivered: true", P14DeliverTest::toOneThatDoesNoMore);
        Edge.of("false if there is none", P14DeliverTest::none);
        Edge.of("or no such WIRE", P14DeliverTest::noSuchWire);
        Edge.end();
    }

    private static void order() {
        Desk d = new Desk().ready(2, "n<0;o<0;a:n;b:o;");
        d.due("give 0 5", 1).due("give 0 6", 1).all("step", 1, "0", "0", "0", "0");
        d.due("party 0 11", 2).due("step 0", 0).due("deliver 0 1", 1).due("party 0 11", 1).due("party 1 20", 1).due("step 1", 1);
        d.due("step 1", 0).due("deliver 0 1", 1).due("step 1", 1).due("run 2000", 8).each(2, "clear", " 0", 5).each(2, "clear", " 1", 6);
    }

    private static void noticeComesLast() {
        Desk d = new Desk();
        d.due("hall 2 3 1", 1).starts("a:n;>a;").due("tamper 0 0 0 1", 1);
        d.due("run 8", 16).due("step 0", 1).due("step 1", 1).due("deliver 1 0", 1).due("step 0", 3);
        d.due("party 0 11", 2).due("step 1", 0).due("deliver 0 1", 1).due("party 1 20", 1).due("party 0 11", 1);
        d.due("deliver 0 1", 1).due("party 1 20", 1).due("party 0 11", 0).due("deliver 0 1", 0).due("step 1", 3);
        d.due("party 1 9", 2).due("party 1 20", 1);
    }

    private static void toOneThatDoesNoMore() {
        Desk d = new Desk().ready(2, "n<0;n=n*n;");
        d.due("give 0 5", 1).due("step 0", 1).due("step 0", 1).due("step 0", 1).due("deliver 0 1", 1).due("step 1", 1);
        d.due("deliver 0 1", 1).due("deliver 0 1", 0).due("party 1 20", 1);
        Desk ended = new Desk();
        ended.due("hall 3 3 1", 1).due("deal 1 1", 1).due("give 1 5", 1).starts("n<1;").due("step 1", 1).due("step 1", 1);
        ended.due("party 1 0", 2).due("deliver 1 0", 1).due("step 0", 1).due("party 0 0", 2).due("deliver 1 2", 1).due("deliver 1 0", 0);
        Desk lacking = new Desk();
        lacking.due("deal 0 1", 1).due("give 0 5", 1).starts("n<0;n!;").due("step 0", 1).due("step 0", 1).due("step 0", 4);
        lacking.due("deliver 0 1", 1).due("step 1", 1).due("step 1", 4);
        Desk failed = new Desk().starts("a:n;>a;").due("tamper 0 0 0 1", 1).due("run 9", 18).due("step 0", 3).due("step 1", 3);
        failed.due("party 0 11", 1).due("party 1 10", 1).due("deliver 0 1", 1).due("deliver 1 0", 1).due("deliver 0 1", 0);
        failed.each(2, "party", " 9", 1);
    }

    private static void none() {
        Desk d = new Desk();
        d.due("deliver 0 1", 0).tape("a:n;").due("compile", 4).due("deliver 0 1", 0).due("begin", 1).due("deliver 0 1", 0);
        d.due("step 0", 1).due("deliver 1 0", 0).due("deliver 0 1", 1).due("deliver 0 1", 0).due("party 1 20", 1).due("step 1", 1);
        d.due("step 1", 1).due("party 1 20", 0).due("deliver 0 1", 0).due("deliver 1 0", 1).due("step 0", 1).due("party 0 0", 2);
        d.due("begin", 1).due("step 0", 1).due("compile", 1).due("deliver 0 1", 0);
    }

    private static void noSuchWire() {
        Desk d = new Desk().starts("a:n;").due("step 0", 1).due("step 1", 1);
        d.all("deliver", 0, "0 0", "1 1", "0 2", "2 0", "0 3", "2 2", "-1 0", "0 -1", "-1 -1", "2147483647 0", "0 2147483647", "-2147483648 1",
            "1 -2147483648");
        d.due("party 0 11", 1).due("party 1 10", 1);
        Desk three = new Desk().ready(3, "a:n;").each(3, "step", "", 1);
        three.all("deliver", 0, "2 2", "2 3", "3 2").all("deliver", 1, "0 1", "0 2", "1 0", "1 2", "2 0", "2 1").due("run 2000", 3);
    }
}
