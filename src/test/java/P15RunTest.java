/** Promise 15: rounds. */
public final class P15RunTest {
    public static void main(String[] args) {
        Desk d = new Desk();
        for (String wrong : new String[] {"0", "-1", "2001", "2147483647", "-2147483648"}) {
            d.due("run " + wrong, Desk.ARGUMENT);
        }
        d.due("run 1", 0).due("run 2000", 0);
        rounds();
        stopsWhenNothingMoves();
        noticesAreDelivered();
        behindThirtyThousand();
        reckons();
        farPlaces();
        Desk.end();
    }

    private static void rounds() {
        Desk d = new Desk().ready(3, "a=1;n<1;o=n*n;>o;");
        d.due("give 1 5", 1);
        int[] done = {3, 1, 3, 3, 3, 3, 3, 3};
        for (int i = 0; i < done.length; i++) {
            d.due("run 1", done[i]);
        }
        d.due("run 3", 9).due("run 2000", 42).due("run 2000", 0).each(3, "output", " 0", 25);
        Desk waiting = new Desk().ready(2, "a:n;");
        waiting.due("step 0", 1).due("run 1", 1).due("party 0 21", 1).due("party 1 20", 1).due("run 1", 2);
    }

    private static void stopsWhenNothingMoves() {
        Desk d = new Desk().ready(2, "n<1;>n;");
        d.due("run 2000", 0).due("party 0 0", 1).due("party 1 0", 4).due("party 1 7", 1);
        Desk moves = new Desk().ready(2, "n<0;m=A[16];");
        moves.due("give 0 1", 1).due("step 0", 1).due("step 0", 1).due("step 0", 4).due("run 1", 0).due("party 1 20", 1);
        moves.due("run 2000", 1).due("party 1 7", 5);
    }

    private static void noticesAreDelivered() {
        Desk d = new Desk().ready(2, "a:n;>a;");
        d.due("tamper 0 0 0 1", 1).due("run 9", 18).due("step 0", 3).due("run 1", 1).due("party 1 9", 1);
        Desk late = new Desk().ready(3, "a:n;>a;");
        late.due("tamper 0 0 0 1", 1).due("run 8", 24).due("step 0", 1).due("step 1", 1).due("step 2", 1);
        late.due("deliver 1 0", 1).due("deliver 2 0", 1).due("step 0", 3).due("party 0 11", 2);
        late.due("run 1", 0).due("party 0 11", 0).due("party 1 0", 1).due("party 1 9", 0);
        late.due("run 1", 0).due("party 1 9", 2).due("party 2 9", 2).due("party 1 1", 9).due("run 2000", 0);
    }

    private static void behindThirtyThousand() {
        Desk d = new Desk();
        d.due("hall 4 0 4", 1).due("deal 0 1", 1).due("give 0 3", 1).loads(3, 13, 0, 0, 18, 0, 3, 0).due("begin", 1);
        d.due("run 2000", 8000 - 3).due("run 2000", 8000).due("run 2000", 8000).due("run 1500", 6000).due("total 2", 29997);
        d.due("step 0", 1).due("run 5", 2).due("party 0 1", 7502).due("party 1 1", 7500).due("party 2 1", 7499);
        d.due("total 2", 30000).due("run 2000", 0).due("step 0", Desk.STATE);
        Desk mails = new Desk();
        mails.loads(3, 18, 0, 3, 17, 0, 0, 0, 0).due("begin", 1);
        for (int i = 0; i < 7; i++) {
            mails.due("run 2000", 4000);
        }
        mails.due("run 999", 1998).tape("a:n;").due("compile", 4).due("begin", 1).due("step 0", 1).due("party 0 11", 1);
        mails.due("step 1", 1).due("run 1", 0).due("party 0 11", 0).due("party 0 21", 1).due("party 1 20", 1);
        mails.due("run 3", 0).due("party 0 1", 1);
    }

    private static void reckons() {
        Desk d = new Desk().ready(3, "n<0;o<1;a=10;*a[n=n*2+o;a=a-1;E[a]=n;]>n;p=E.E;>p;?b[>a;|b=-1;>b;]F=E*E;q=F[9]-1;>q;");
        d.due("give 0 1", 1).due("give 1 " + (Desk.P - 1), 1);
        d.ask("run 2000");
        d.each(3, "output", " 0", 1).each(3, "output", " 1", 10).each(3, "output", " 2", Desk.P - 1);
        d.each(3, "output", " 3", 0).each(3, "party", " 4", 4);
    }

    /** Places beyond 255, of each operation that goes on elsewhere. */
    private static void farPlaces() {
        Desk d = new Desk().ready(2, "d=1;".repeat(50) + "@1;?e[|f=7;]g=3;*g[f=f+1;g=g-1;]>f;@1[h=h+1;]@1;");
        d.ask("run 2000");
        d.each(2, "output", " 0", 10).each(2, "clear", " 7", 2).each(2, "party", " 0", 2);
        int[] code = new int[517];
        code[0] = 18;
        code[1] = 2;
        code[2] = 3;
        code[515] = 29;
        Desk far = new Desk();
        far.loads(515, code).due("begin", 1).due("step 0", 1).due("step 0", 4).due("party 0 7", 7);
        code[1] = 1;
        code[2] = 255;
        far.loads(515, code).due("begin", 1).due("step 0", 1).due("step 0", 2);
    }
}
