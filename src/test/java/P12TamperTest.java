/** Promise 12: errors, what they do to numbers, and how checks find them. */
public final class P12TamperTest {
    public static void main(String[] args) {
        whatIsRefused();
        forty();
        ofAnInput();
        ofProductAndSquare();
        ofArrays();
        ofOpenedOnes();
        thatCancelOut();
        thatAreNotSent();
        sendsAreCounted();
        thatFitTheCoins();
        Desk.end();
    }

    private static void whatIsRefused() {
        Desk d = new Desk();
        d.due("tamper 0 0 0 1", 0).tape("a:n;b:n;").due("compile", 7).due("tamper 0 0 0 1", 0).due("begin", 1);
        for (String wrong : new String[] {"2 0 0", "-1 0 0", "2147483647 0 0", "0 -1 0", "0 1000 0", "0 2147483647 0",
            "0 -2147483648 0", "0 0 -1", "0 0 32", "0 0 2147483647", "0 0 -2147483648"}) {
            d.due("tamper " + wrong + " 1", 0);
        }
        d.due("tamper 0 999 31 0", 1).due("tamper 1 0 0 0", 1).due("step 0", 1).due("tamper 0 0 0 1", 0);
        d.due("tamper 0 1 0 0", 1).due("tamper 1 0 0 0", 1);
        d.due("hall 2 0 1", 1).due("tamper 0 0 0 1", 0);
    }

    private static void forty() {
        Desk d = new Desk().ready(2, "a:n;");
        for (int i = 0; i < 40; i++) {
            d.due("tamper 2 0 0 1", 0).due("tamper " + i % 2 + " 0 0 1", 1);
        }
        d.due("tamper 0 0 0 1", 0).due("tamper 1 5 0 1", 0).due("run 2000", 4).due("clear 0 0", 40);
        d.due("begin", 1).due("tamper 0 0 0 1", 1);
    }

    private static void ofAnInput() {
        Desk d = new Desk().ready(3, "n<1;o<1;>n;>o;");
        d.due("give 1 10", 1).due("give 1 20", 1);
        d.due("tamper 1 1 0 -3", 1).due("tamper 1 0 0 5", 1).due("tamper 1 0 1 7", 1).due("tamper 0 2 0 7", 1);
        d.ask("run 2000");
        d.each(3, "output", " 0", 15).each(3, "output", " 1", 17).each(3, "party", " 9", 0);
    }

    /** An error in a product is seen in what is opened, ahead of the check that finds it. */
    private static void ofProductAndSquare() {
        Desk d = new Desk().ready(2, "n<0;o<1;p=n*o;a:p;p=n^;b:p;>a;");
        d.due("give 0 10", 1).due("give 1 20", 1);
        d.due("tamper 0 1 0 1", 1).due("tamper 1 1 1 2", 1).due("tamper 1 1 0 1", 1).due("tamper 0 3 0 5", 1);
        d.ask("run 2000");
        d.each(2, "clear", " 0", 12 * 22).each(2, "clear", " 1", 225).each(2, "party", " 0", 3).each(2, "party", " 9", 1);
        d.each(2, "party", " 4", 0).each(2, "party", " 8", 1);
        Desk order = new Desk().ready(2, "n<0;o<0;p=(n-o)*n;a:p;");
        order.due("give 0 10", 1).due("give 0 4", 1).due("tamper 0 2 0 100", 1).due("run 2000", 18);
        order.each(2, "clear", " 0", 1060);
    }

    private static void ofArrays() {
        Desk d = new Desk().ready(2, "E[0]=2;F[0]=3;E[15]=4;F[15]=5;G=E*F;n=G[0];a:n;n=G[15];b:n;n=G[7];c:n;");
        d.due("tamper 0 0 0 10", 1).due("tamper 1 0 31 100", 1).due("tamper 0 0 30 1", 1).due("tamper 1 0 14 6", 1);
        d.due("tamper 1 0 15 7", 1);
        d.ask("run 2000");
        d.each(2, "clear", " 0", 36).each(2, "clear", " 1", 525).each(2, "clear", " 2", 42).each(2, "party", " 0", 2);
        Desk dot = new Desk().ready(2, "E[0]=2;F[0]=3;E[15]=4;F[15]=5;n=E.F;a:n;n=A.E;b:n;>a;");
        dot.due("tamper 0 0 1 10", 1).due("tamper 1 0 30 100", 1);
        dot.ask("run 2000");
        dot.each(2, "clear", " 0", 26 + 520).each(2, "clear", " 1", 0).each(2, "party", " 0", 3);
    }

    private static void ofOpenedOnes() {
        Desk d = new Desk().ready(4, "n<0;a:n;>n;");
        d.due("give 0 7", 1).due("tamper 2 0 0 5", 1).due("tamper 3 0 0 -6", 1).due("tamper 2 0 0 3", 1);
        d.ask("run 2000");
        d.each(4, "clear", " 0", 9).each(4, "party", " 9", 1).each(4, "party", " 4", 0);
        Desk shown = new Desk().ready(2, ">n;");
        shown.due("tamper 0 0 0 1", 1).due("run 2000", 20).each(2, "party", " 0", 3).each(2, "party", " 8", 1);
        shown.each(2, "party", " 2", 5).each(2, "party", " 3", 5);
    }

    private static void thatCancelOut() {
        Desk d = new Desk().ready(2, "n<0;a:n;o=n*n;>n;>o;");
        d.due("give 0 7", 1).due("tamper 0 1 0 5", 1).due("tamper 1 0 0 -5", 1).due("tamper 0 2 1 9", 1);
        d.due("tamper 0 2 1 " + (Desk.P - 9), 1).due("tamper 0 3 0 4", 1).due("tamper 1 2 0 " + (Desk.P - 4), 1);
        d.ask("run 2000");
        d.each(2, "clear", " 0", 7).each(2, "output", " 0", 7).each(2, "output", " 1", 49).each(2, "party", " 0", 2);
        Desk two = new Desk().ready(2, "a:n;b:n;>a;");
        two.due("tamper 0 0 0 5", 1).due("tamper 0 1 0 -5", 1);
        two.ask("run 2000");
        two.each(2, "party", " 9", 1);
    }

    private static void thatAreNotSent() {
        Desk d = new Desk().ready(2, "a:n;>a;");
        d.due("tamper 0 0 1 5", 1).due("tamper 1 1 0 5", 1).due("tamper 1 0 31 5", 1).due("run 2000", 22);
        d.each(2, "party", " 0", 2).each(2, "output", " 0", 0).due("tamper 0 1 0 5", 1).due("tamper 0 0 0 5", 0);
    }

    /** The sends of checks are not counted; one that waits is not sent. */
    private static void sendsAreCounted() {
        Desk d = new Desk().ready(2, "a:n;>a;b:n;>n;c:n;");
        d.due("run 12", 24).due("party 0 2", 6).due("tamper 0 1 0 5", 0).due("tamper 0 2 0 0", 1);
        d.due("tamper 0 3 0 6", 1);
        d.ask("run 2000");
        d.each(2, "party", " 0", 2).each(2, "clear", " 2", 6);
        Desk waits = new Desk();
        waits.due("deal 0 2", 2).due("give 0 1", 1).due("give 0 2", 1).tape("n<0;o<0;").due("compile", 7).due("begin", 1);
        waits.due("step 0", 1).due("step 0", 1).due("step 0", 0).due("tamper 0 1 0 5", 1).due("tamper 0 0 0 5", 0);
    }

    /**
     * Who knows the coins ahead can choose errors whose weighted sum is 0: no check finds these. With
     * one of them changed by 1 they are found.
     */
    private static void thatFitTheCoins() {
        for (int change = 0; change < 2; change++) {
            fitting(2, "a:n;b:n;>a;", 0, 0, new int[][] {{0, 0, 0}, {1, 0, 1}}, change);
            fitting(3, "p=n*o;c:n;a:p;b:n;>a;", 0, 0, new int[][] {{0, 1, 1}, {3, 0, 4}}, change);
            fitting(4, "n=n^;c:n;G=E*F;p=E.F;>c;", 0, 0, new int[][] {{2, 30, 32}, {3, 1, 35}}, change);
            fitting(2, "a:n;>n;b:n;c:n;>a;", 6, 3, new int[][] {{2, 0, 0}, {3, 0, 1}}, change);
        }
    }

    /**
     * Two errors (send, number in it, number in the check); ahead of the check each party has drawn
     * some of its numbers, and so many checks have been.
     */
    private static void fitting(int parties, String text, int drawn, int skipped, int[][] errors, int change) {
        java.math.BigInteger p = java.math.BigInteger.valueOf(Desk.P);
        java.math.BigInteger coins = java.math.BigInteger.ZERO;
        for (int i = 0; i < parties; i++) {
            coins = coins.add(java.math.BigInteger.valueOf(P19BoundTest.next(77 + 1000003L * (i + 1), drawn))).mod(p);
        }
        java.math.BigInteger first = java.math.BigInteger.valueOf(P19BoundTest.next(coins.longValue(), errors[0][2]));
        java.math.BigInteger second = java.math.BigInteger.valueOf(P19BoundTest.next(coins.longValue(), errors[1][2]));
        java.math.BigInteger e = first.multiply(java.math.BigInteger.valueOf(-5)).multiply(second.modInverse(p)).mod(p);
        Desk d = new Desk().ready(parties, text);
        d.due("tamper 0 " + errors[0][0] + " " + errors[0][1] + " 5", 1);
        d.due("tamper 1 " + errors[1][0] + " " + errors[1][1] + " " + (e.longValue() + change), 1);
        d.ask("run 2000");
        d.each(parties, "party", " 9", change).each(parties, "party", " 8", 1 + (skipped == 0 ? 0 : 2));
        d.each(parties, "party", " 0", change == 0 ? 2 : 3);
    }
}
