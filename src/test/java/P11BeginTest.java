/** Promise 11: a run begins, and what of the one before is no more. */
public final class P11BeginTest {
    public static void main(String[] args) {
        Edge.of("A RUN begins: true; false if there is no CODE", P11BeginTest::noCode);
        Edge.of("What is dealt and given goes on", P11BeginTest::inputsGoOn);
        Edge.of("What is dealt and given goes on", P11BeginTest::whatWasSentIsNotReceived);
        Edge.of("TRIPLES, SQUARES and BITS that a PARTY has taken are no more for all", P11BeginTest::stocksAreEven);
        Edge.of("TRIPLES, SQUARES and BITS that a PARTY has taken are no more for all", P11BeginTest::stocksAtTheirEnd);
        Edge.of("ERRORS that were to come", P11BeginTest::errorsAreGone);
        Edge.of("what was put out and counted", P11BeginTest::forgets);
        Edge.of("what was put out and counted", P11BeginTest::pileIsEmpty);
        Edge.of("what was on WIRES are no more", P11BeginTest::wiresAreEmpty);
        Edge.of("what was on WIRES are no more", P11BeginTest::noticesAreGone);
        Edge.end();
    }

    private static void noCode() {
        Desk d = new Desk();
        d.due("begin", 0).each(2, "party", " 0", 2).isRefused("n=", 1, 2).due("begin", 0).isNotLoaded(1, 0, 99).due("begin", 0);
        d.due("compile", 1).due("begin", 1).each(2, "party", " 0", 2).due("begin", 1).due("step 0", 2).due("party 0 1", 0);
        d.isRefused("n=", 1, 2).due("begin", 1).due("hall 2 0 1", 1).due("begin", 0).loads(2, 15, 0, 0).due("begin", 1).due("party 0 0", 1);
    }

    private static void inputsGoOn() {
        Desk d = new Desk().ready(2, "n<0;>n;");
        d.due("give 0 5", 1).due("give 0 6", 1).due("give 0 7", 1).runs().outputs(1, 5).due("begin", 1).due("party 0 6", 2);
        d.due("party 0 5", 99).runs().outputs(1, 6).due("begin", 1).runs().outputs(0, 7).due("begin", 1).due("run 2000", 0);
        d.due("party 0 7", 1).due("party 1 0", 1).due("party 0 5", 97).due("total 1", 100);
    }

    /** An input that was sent in a run that was left is gone, for all parties alike. */
    private static void whatWasSentIsNotReceived() {
        Desk d = new Desk().ready(2, "n<0;a:n;");
        d.due("give 0 5", 1).due("give 0 6", 1).due("step 0", 1).due("begin", 1).due("party 0 6", 1).due("party 0 5", 99);
        d.runs().clears(0, 6).clears(1, 6);
        Desk partly = new Desk().ready(3, "n<0;a:n;");
        partly.due("give 0 5", 1).due("give 0 6", 1).due("step 0", 1).due("deliver 0 1", 1).due("step 1", 1).due("begin", 1);
        partly.runs().each(3, "clear", " 0", 6);
    }

    private static void stocksAreEven() {
        Desk d = new Desk();
        d.due("deal -1 2", 2).due("deal -2 2", 2).due("deal -3 2", 2);
        d.starts("n!;o=n^;p=n*n;").due("step 0", 1).due("step 0", 1);
        d.due("total 6", 2).due("total 4", 2).due("begin", 1).due("total 6", 1).due("total 4", 1).due("total 1", 2);
        d.due("run 2000", 14).each(2, "party", " 0", 2).due("total 6", 0).due("total 4", 0).due("total 1", 1);
        d.due("begin", 1).due("run 2000", 0).each(2, "party", " 7", 6);
        Desk last = new Desk();
        last.due("hall 4 0 1", 1).due("deal -1 40", 40).starts("n=n*n;E=F*G;").due("step 3", 1).due("step 1", 1).due("total 1", 40);
        last.due("begin", 1).due("total 1", 39).runs().due("total 1", 22).due("begin", 1).due("total 1", 22);
    }

    private static void stocksAtTheirEnd() {
        Desk d = new Desk();
        d.due("deal -1 1", 1).due("deal -2 1", 1).due("deal -3 1", 1).starts("n!;o=n^;").due("step 0", 1).due("step 0", 1);
        d.due("begin", 1).due("total 6", 0).due("total 4", 0).due("total 1", 1).due("step 1", 4).due("party 1 7", 6);
        d.due("deal -3 0", 0).due("deal -3 1", 1).due("begin", 1).due("step 1", 1).due("step 1", 4).due("party 1 7", 4);
    }

    private static void errorsAreGone() {
        Desk d = new Desk().ready(2, "a:n;>a;");
        d.due("tamper 0 0 0 5", 1).due("begin", 1).due("run 2000", 22).due("output 0 0", 0).each(2, "party", " 0", 2);
        d.due("begin", 1).due("tamper 0 0 0 5", 1).due("run 2000", 20).each(2, "party", " 0", 3);
        d.due("begin", 1).due("party 0 9", 0).due("run 2000", 22).each(2, "party", " 0", 2);
        d.due("begin", 1).due("tamper 1 0 0 5", 1).due("run 2", 4).each(2, "clear", " 0", 5).due("begin", 1).due("run 2000", 22);
        d.each(2, "party", " 0", 2).due("tamper 0 0 0 5", 0).due("begin", 1).due("tamper 0 0 0 5", 1);
    }

    private static void forgets() {
        Desk d = new Desk().ready(2, "a=5;A[2]=6;@1;@1[b:n;>a;o=n*n;o=n*n;]");
        d.due("run 2000", 44).due("party 0 4", 1).due("party 0 30", 0).due("clear 0 0", 5).due("clear 1 102", 6);
        d.due("begin", 1).due("run 4", 8).due("party 0 30", 1).due("party 0 11", 0).due("party 0 21", 1);
        d.due("begin", 1).each(2, "party", " 0", 1).due("bound 0 0 0", Desk.ELEMENT);
        for (int what : new int[] {1, 2, 3, 4, 7, 8, 9, 10, 11, 20, 21, 30}) {
            d.each(2, "party", " " + what, 0);
        }
        d.due("clear 0 0", 0).due("clear 1 102", 0).due("output 0 0", Desk.ELEMENT).due("total 2", 52);
        d.due("step 0", 1).due("clear 0 0", 5).due("run 2000", 43).due("output 0 0", 5);
        Desk lacks = new Desk().starts("n!;").due("step 0", 4).due("begin", 1).due("party 0 0", 1).due("party 0 7", 0);
        lacks.due("deal -3 1", 1).due("step 0", 1);
        Desk opened = new Desk().starts("?a[|b=1;]c:n;*b[]>a;").due("run 4", 8).due("begin", 1).tape("c:n;>a;>a;").due("compile", 8);
        opened.due("begin", 1).due("run 2", 4).due("begin", 1).tape(">a;").due("compile", 3).due("begin", 1).due("run 9", 2);
    }

    /** Runs that are left amid an expression leave nothing on the pile. */
    private static void pileIsEmpty() {
        Desk d = new Desk().ready(2, "a=1+(2+(3+(4+(5+(6+(7+(8+9)))))));@1;@1[@2;]@2[b=a;]");
        for (int i = 0; i < 80; i++) {
            d.due("step 0", 1).due("begin", 1);
        }
        d.runs().each(2, "clear", " 0", 45).each(2, "clear", " 1", 45).each(2, "party", " 0", 2).each(2, "party", " 30", 0);
    }

    private static void wiresAreEmpty() {
        Desk d = new Desk().ready(2, "a:n;");
        d.due("step 0", 1).due("party 0 11", 1).due("begin", 1).due("party 0 11", 0).due("deliver 0 1", 0);
        d.due("step 1", 1).due("deliver 1 0", 1).due("party 0 21", 1).due("begin", 1).due("party 0 21", 0).due("step 0", 1).due("step 0", 0);
        d.due("step 1", 1).due("run 2000", 2).each(2, "party", " 0", 2);
    }

    private static void noticesAreGone() {
        Desk d = new Desk().ready(3, "a:n;>a;");
        d.due("tamper 0 0 0 1", 1).due("run 9", 27).due("step 1", 3).due("step 0", 3).due("deliver 0 2", 1);
        d.due("party 1 10", 1).due("party 1 12", 1).due("party 0 12", 0).due("begin", 1).due("party 1 10", 0);
        d.due("party 1 12", 0).due("deliver 1 0", 0).due("step 2", 1).due("run 2000", 32).each(3, "party", " 9", 0);
    }
}
