/** Promise 15: rounds. */
public final class P15RunTest {
    public static void main(String[] args) {
        Edge.of("Rounds: the PARTIES in turn have a STEP each, then all MAILS are delivered", P15RunTest::rounds);
        Edge.of("Rounds: the PARTIES in turn have a STEP each, then all MAILS are delivered", P15RunTest::allMails);
        Edge.of("Rounds: the PARTIES in turn have a STEP each, then all MAILS are delivered", P15RunTest::noticesAreDelivered);
        Edge.of("till no STEP was DONE and nothing delivered in a round", P15RunTest::stopsWhenNothingMoves);
        Edge.of("or n (1 .. 2000) rounds have been", P15RunTest::soManyRounds);
        Edge.of("how many STEPS were DONE", P15RunTest::howManySteps);
        Edge.of("IllegalArgumentException: another n", P15RunTest::anotherN);
        Edge.of("Behind 30000 in all PARTIES do nothing, MAILS are delivered", P15RunTest::behindThirtyThousand);
        Edge.of("Behind 30000 in all PARTIES do nothing, MAILS are delivered", P15RunTest::mailsBehindThirtyThousand);
        Edge.of("Behind 30000 in all PARTIES do nothing, MAILS are delivered", P15RunTest::noticesBehindThirtyThousand);
        Edge.of("how many STEPS were DONE", P15RunTest::reckons);
        Edge.end();
    }

    private static void rounds() {
        Desk d = new Desk().ready(3, "a=1;n<1;o=n*n;>o;");
        d.due("give 1 5", 1);
        int[] done = {3, 1, 3, 3, 3, 3, 3, 3};
        for (int i = 0; i < done.length; i++) {
            d.due("run 1", done[i]);
        }
        d.due("run 3", 9).due("run 2000", 42).due("run 2000", 0).each(3, "output", " 0", 25);
        Desk waiting = new Desk().ready(2, "a:n;");
        waiting.due("step 0", 1).due("run 1", 1).due("party 0 21", 1).due("party 1 20", 1).due("run 1", 2);
    }

    /** Also those of which several are on one wire. */
    private static void allMails() {
        Desk d = new Desk();
        d.due("hall 4 0 4", 1).due("deal 3 5", 5).all("give 3", 1, "1", "2", "3", "4", "5").starts("n<3;".repeat(5));
        d.all("step", 1, "3", "3", "3", "3", "3", "3").due("party 3 10", 3).due("run 1", 1).all("party 3", 0, "10", "11", "12");
        d.due("party 0 23", 4).due("party 1 23", 4).due("party 2 23", 4).due("run 2000", 2 + 1 + 3 * 5).each(4, "party", " 0", 2);
    }

    private static void noticesAreDelivered() {
        Desk d = new Desk().ready(2, "a:n;>a;");
        d.due("tamper 0 0 0 1", 1).due("run 9", 18).due("step 0", 3).due("run 1", 1).due("party 1 9", 1);
        Desk late = new Desk().ready(3, "a:n;>a;");
        late.due("tamper 0 0 0 1", 1).due("run 8", 24).due("step 0", 1).due("step 1", 1).due("step 2", 1);
        late.due("deliver 1 0", 1).due("deliver 2 0", 1).due("step 0", 3).due("party 0 11", 2);
        late.due("run 1", 0).due("party 0 11", 0).due("party 1 0", 1).due("party 1 9", 0);
        late.due("run 1", 0).due("party 1 9", 2).due("party 2 9", 2).due("party 1 1", 9).due("run 2000", 0);
        Desk one = new Desk().ready(3, "a:n;>a;");
        one.due("tamper 0 0 0 1", 1).due("run 8", 24).each(3, "step", "", 1).due("deliver 1 0", 1).due("deliver 2 0", 1).due("step 0", 3);
        one.due("run 2000", 0).due("party 1 9", 2).due("party 2 9", 2).due("party 0 9", 1);
    }

    private static void stopsWhenNothingMoves() {
        Desk d = new Desk().ready(2, "n<1;>n;");
        d.due("run 2000", 0).due("party 0 0", 1).due("party 1 0", 4).due("party 1 7", 1);
        Desk moves = new Desk().ready(2, "n<0;m=A[16];");
        moves.due("give 0 1", 1).due("step 0", 1).due("step 0", 1).due("step 0", 4).due("run 1", 0).due("party 1 20", 1);
        moves.due("run 2000", 1).due("party 1 7", 5);
        Desk delivered = new Desk().ready(2, "n<0;m=A[16];");
        delivered.due("give 0 1", 1).due("step 0", 1).due("step 0", 1).due("step 0", 4).due("run 2000", 1).due("party 1 7", 5);
        Desk none = new Desk();
        none.due("run 1", 0).due("run 2000", 0).due("compile", 1).due("run 2000", 0).due("begin", 1).due("run 2000", 0).due("total 2", 0);
    }

    private static void soManyRounds() {
        Desk d = new Desk().loads(2, 18, 0, 0, 0).due("begin", 1).due("run 1", 2).due("run 2", 4).due("run 1999", 3998).due("run 2000", 4000);
        d.each(2, "party", " 1", 1 + 2 + 1999 + 2000);
    }

    private static void howManySteps() {
        Desk d = new Desk().ready(2, "a=1;a:n;>a;").due("run 1", 2).due("run 2000", 22).due("total 2", 24).due("run 2000", 0);
        d.due("begin", 1).due("tamper 0 0 0 1", 1).due("run 2000", 2 + 20).due("total 2", 46).each(2, "party", " 0", 3);
    }

    private static void anotherN() {
        Desk d = new Desk();
        String[] wrong = {"0", "-1", "2001", "2147483647", "-2147483648"};
        d.all("run", Desk.ARGUMENT, wrong).due("run 1", 0).due("run 2000", 0);
        d.starts("a:n;").due("step 0", 1).all("run", Desk.ARGUMENT, wrong).due("total 2", 1).due("party 0 11", 1).due("party 1 1", 0);
    }

    private static void behindThirtyThousand() {
        Desk d = new Desk();
        d.due("hall 4 0 4", 1).due("deal 0 1", 1).due("give 0 3", 1).loads(3, 13, 0, 0, 18, 0, 3, 0).due("begin", 1);
        d.due("run 2000", 8000 - 3).due("run 2000", 8000).due("run 2000", 8000).due("run 1500", 6000).due("total 2", 29997);
        d.due("step 0", 1).due("run 5", 2).due("party 0 1", 7502).due("party 1 1", 7500).due("party 2 1", 7499);
        d.due("total 2", 30000).due("run 2000", 0).due("step 0", Desk.STATE).each(4, "party", " 0", 1).due("run 0", Desk.ARGUMENT);
    }

    /** An object of which so many steps have been done, by a loop that does not end. */
    static Desk done(int steps) {
        Desk d = new Desk().loads(2, 18, 0, 0, 0).due("begin", 1);
        for (int i = 0; i < steps / 4000; i++) {
            d.due("run 2000", 4000);
        }
        return d.due("run " + steps % 4000 / 2, steps % 4000).due("total 2", steps);
    }

    private static void mailsBehindThirtyThousand() {
        Desk d = done(29998).starts("a:n;").due("step 0", 1).due("party 0 11", 1).due("step 1", 1).due("run 1", 0);
        d.due("party 0 11", 0).due("party 0 21", 1).due("party 1 20", 1).due("run 3", 0).due("party 0 1", 1).due("run 2000", 0);
        Desk amid = done(29998).starts("a:n;").due("run 2000", 2).due("party 0 11", 0).due("party 0 21", 1).due("party 1 20", 1);
        amid.each(2, "party", " 0", 1).due("total 2", 30000);
        Desk odd = done(29998).starts("a=1;b=2;").due("step 0", 1).due("run 2000", 1).due("party 0 1", 2).due("party 1 1", 0);
        odd.due("party 1 0", 1).due("party 0 0", 2);
    }

    /** A party that was sent a notice does not even fail then. */
    private static void noticesBehindThirtyThousand() {
        Desk last = done(29980).due("step 0", 1).starts("a:n;>a;").due("tamper 0 0 0 1", 1).due("run 9", 18).due("total 2", 29999);
        last.due("step 0", 3).due("total 2", 30000).due("party 0 11", 1).due("run 2000", 0).due("party 0 11", 0).due("party 1 0", 1);
        last.due("party 1 9", 0).due("step 1", Desk.STATE);
    }

    private static void reckons() {
        Desk d = new Desk().ready(3, "n<0;o<1;a=10;*a[n=n*2+o;a=a-1;E[a]=n;]>n;p=E.E;>p;?b[>a;|b=-1;>b;]F=E*E;q=F[9]-1;>q;");
        d.due("give 0 1", 1).due("give 1 " + (Desk.P - 1), 1).runs();
        d.each(3, "output", " 0", 1).each(3, "output", " 1", 10).each(3, "output", " 2", Desk.P - 1);
        d.each(3, "output", " 3", 0).each(3, "party", " 4", 4);
    }
}
