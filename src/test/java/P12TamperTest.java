/** Promise 12: errors are told of; what they do is with "Terms", T08. */
public final class P12TamperTest {
    public static void main(String[] args) {
        Edge.of("e is added to the k-th number (0 .. 31) of the n-th SEND (from 0 on, not those of CHECKS) of a PARTY in this RUN: true",
            P12TamperTest::whichNumber);
        Edge.of("e is added to the k-th number (0 .. 31) of the n-th SEND (from 0 on, not those of CHECKS) of a PARTY in this RUN: true",
            P12TamperTest::sendsAreCounted);
        Edge.of("false if there is no RUN", P12TamperTest::noRun);
        Edge.of("no such PARTY or k, n is not 0 .. 999", P12TamperTest::otherNumbers);
        Edge.of("it was SENT already", P12TamperTest::sentAlready);
        Edge.of("or 40 were told in this RUN", P12TamperTest::forty);
        Edge.of("Twice the same: both", P12TamperTest::twiceTheSame);
        Edge.of("A number that is not SENT, also since the PARTY has ENDED or FAILED: nothing", P12TamperTest::thatAreNotSent);
        Edge.end();
    }

    private static void whichNumber() {
        for (int n = 0; n < 4; n++) {
            Desk d = new Desk().ready(2, "a:n;b:n;c:n;d:n;").due("tamper 1 " + n + " 0 9", 1).runs();
            for (int v = 0; v < 4; v++) {
                d.each(2, "clear", " " + v, v == n ? 9 : 0);
            }
        }
        for (int k = 0; k < 32; k++) {
            Desk d = new Desk().ready(2, "a=16;*a[a=a-1;E[a]=1;F[a]=2;]n=E.F;a:n;").due("tamper 0 0 " + k + " 10", 1).runs();
            d.clears(0, 32 + (k % 2 == 0 ? 20 : 10)).clears(1, 32 + (k % 2 == 0 ? 20 : 10));
        }
        for (int party = 0; party < 4; party++) {
            new Desk().ready(4, "n<" + party + ";a:n;").due("give " + party + " 3", 1).due("tamper " + party + " 0 0 4", 1)
                .due("tamper " + party + " 1 0 10", 1).runs().each(4, "clear", " 0", 17);
        }
    }

    /** The sends of checks are not counted. */
    private static void sendsAreCounted() {
        Desk d = new Desk().ready(2, "a:n;>a;b:n;>n;c:n;");
        d.due("run 12", 24).due("party 0 2", 6).due("tamper 0 1 0 5", 0).due("tamper 0 2 0 0", 1);
        d.due("tamper 0 3 0 6", 1).runs().each(2, "party", " 0", 2).each(2, "clear", " 2", 6);
    }

    private static void noRun() {
        Desk d = new Desk();
        d.due("tamper 0 0 0 1", 0).tape("a:n;b:n;").due("compile", 7).due("tamper 0 0 0 1", 0).due("begin", 1).due("tamper 0 0 0 1", 1);
        d.loads(4, 14, 0, 0, 14, 1, 0, 15, 0, 0).due("tamper 0 0 0 1", 0).due("begin", 1).due("tamper 0 0 0 1", 1);
        d.due("hall 2 0 1", 1).due("tamper 0 0 0 1", 0);
    }

    private static void otherNumbers() {
        Desk d = new Desk().starts("a:n;b:n;");
        for (String wrong : new String[] {"2 0 0", "3 0 0", "-1 0 0", "2147483647 0 0", "-2147483648 0 0", "0 -1 0", "0 1000 0", "0 1001 0",
            "0 2147483647 0", "0 -2147483648 0", "0 0 -1", "0 0 32", "0 0 33", "0 0 2147483647", "0 0 -2147483648"}) {
            d.due("tamper " + wrong + " 1", 0);
        }
        d.due("tamper 0 999 31 1", 1).due("tamper 0 999 0 1", 1).due("tamper 1 0 31 1", 1).due("tamper 1 0 0 0", 1).runs().clears(0, 0, 0);
        new Desk().ready(3, "a:n;").due("tamper 2 0 0 1", 1).due("tamper 3 0 0 1", 0).due("hall 4 0 1", 1).starts("a:n;").due("tamper 3 0 0 1", 1);
        lastOfThousand();
    }

    /** An error in the very last send that can be told of. */
    private static void lastOfThousand() {
        Desk d = new Desk().starts("b=1001;*b[c=a;a:n;b=b-1;]").due("tamper 0 999 0 8", 1).due("tamper 0 1000 0 8", 0).runs().runs().runs().runs();
        d.due("party 0 2", 1001).due("party 0 0", 2).clears(0, 0, 0, 8).clears(1, 0, 0, 8);
    }

    private static void sentAlready() {
        Desk d = new Desk().starts("a:n;b:n;");
        d.due("tamper 0 0 0 0", 1).due("step 0", 1).due("tamper 0 0 0 1", 0).due("tamper 0 0 1 1", 0).due("tamper 0 1 0 0", 1);
        d.due("tamper 1 0 0 3", 1).due("step 1", 1).due("tamper 1 0 0 3", 0).runs().clears(0, 3, 0).due("tamper 0 1 0 0", 0);
        Desk waits = new Desk();
        waits.due("deal 0 2", 2).due("give 0 1", 1).due("give 0 2", 1).starts("n<0;o<0;");
        waits.due("step 0", 1).due("step 0", 1).due("step 0", 0).due("tamper 0 1 0 5", 1).due("tamper 0 0 0 5", 0);
        Desk shown = new Desk().ready(2, ">n;a:n;").due("step 0", 1).due("tamper 0 0 0 1", 0).due("tamper 1 0 0 0", 1).due("run 2000", 25);
        shown.due("tamper 0 1 0 1", 0).due("tamper 0 2 0 1", 1);
        waits.due("tamper 1 0 0 5", 1).runs().due("tamper 0 1 0 5", 0).due("tamper 0 2 0 5", 1);
    }

    private static void forty() {
        Desk d = new Desk().ready(2, "a:n;");
        for (int i = 0; i < 40; i++) {
            d.due("tamper 2 0 0 1", 0).due("tamper " + i % 2 + " 0 0 1", 1);
        }
        d.due("tamper 0 0 0 1", 0).due("tamper 1 5 0 1", 0).due("run 2000", 4).clears(0, 40).clears(1, 40).due("tamper 1 5 0 1", 0);
        d.due("begin", 1).due("tamper 0 0 0 1", 1);
        Desk zeros = new Desk().starts("a:n;>a;");
        for (int i = 0; i < 40; i++) {
            zeros.due("tamper 0 0 0 0", 1);
        }
        zeros.due("tamper 0 0 0 1", 0).runs().each(2, "party", " 9", 0);
        Desk many = new Desk().ready(2, "E=F*G;c:n;d:n;>a;");
        for (int i = 0; i < 40; i++) {
            many.due(i < 32 ? "tamper 0 0 " + i + " 1" : "tamper " + i % 2 + " " + (1 + i % 4 / 2) + " 0 " + (i < 36 ? 1 : 2), 1);
        }
        many.runs().each(2, "party", " 9", 1).clears(0, 0, 0, 6, 6);
    }

    private static void twiceTheSame() {
        Desk d = new Desk().ready(2, "a:n;>a;");
        d.due("tamper 0 0 0 5", 1).due("tamper 0 0 0 5", 1).runs().clears(0, 10).clears(1, 10).each(2, "party", " 9", 1);
        d.due("begin", 1).due("tamper 0 0 0 5", 1).due("tamper 0 0 0 -5", 1).runs().clears(0, 0).each(2, "party", " 9", 0);
        d.due("begin", 1).due("tamper 1 0 0 -1", 1).due("tamper 1 0 0 -1", 1).due("tamper 1 0 0 3", 1).runs().clears(0, 1);
    }

    private static void thatAreNotSent() {
        Desk d = new Desk().ready(2, "a:n;>a;");
        d.due("tamper 0 0 1 5", 1).due("tamper 1 1 0 5", 1).due("tamper 1 0 31 5", 1).due("run 2000", 22);
        d.each(2, "party", " 0", 2).each(2, "output", " 0", 0).due("tamper 0 1 0 5", 1).due("tamper 0 0 0 5", 0).due("run 9", 0);
        Desk failed = new Desk().ready(2, "a:n;>a;b:n;");
        failed.due("tamper 0 0 0 1", 1).due("run 2000", 20).each(2, "party", " 0", 3).due("tamper 0 1 0 5", 1).due("tamper 0 0 0 5", 0);
        failed.due("run 9", 0).clears(0, 1, 0);
        Desk lacks = new Desk().starts("n!;a:n;").due("step 0", 4).due("tamper 0 0 0 5", 1).due("run 9", 0);
        lacks.due("party 0 7", 6);
        new Desk().ready(2, ">n;").due("tamper 0 0 1 5", 1).due("tamper 1 0 31 5", 1).runs().outputs(0, 0).each(2, "party", " 9", 0);
        Desk other = new Desk().ready(2, "n<0;n=n^;n=n*n;a:n;");
        other.due("give 0 2", 1).due("tamper 1 2 1 5", 1).due("tamper 0 0 1 5", 1).due("tamper 0 1 1 5", 1).due("tamper 0 2 2 5", 1).runs();
        other.clears(0, 16);
    }
}
