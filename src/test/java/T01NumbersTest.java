/** Terms: NUMBERS, and what is reckoned modulo P. */
public final class T01NumbersTest {
    private static final long P = Desk.P;

    /** Longs from outside, and what they are modulo P. */
    private static final long[][] OUTSIDE = {
        {-1, P - 1}, {0, 0}, {P - 1, P - 1}, {P, 0}, {P + 1, 1}, {2 * P, 0}, {4 * P, 0}, {-P, 0}, {-P - 1, P - 1},
        {-P + 1, 1}, {Long.MAX_VALUE, 3}, {Long.MIN_VALUE, P - 4}
    };

    public static void main(String[] args) {
        Edge.of("NUMBERS are 0 .. P - 1, P = 2^61 - 1", T01NumbersTest::leastAndLargest);
        Edge.of("all is reckoned modulo P", T01NumbersTest::clearOnesWrap);
        Edge.of("all is reckoned modulo P", T01NumbersTest::secretOnesWrap);
        Edge.of("all is reckoned modulo P", T01NumbersTest::arraysWrap);
        Edge.of("all is reckoned modulo P", T01NumbersTest::largeOnes);
        Edge.of("longs from outside are taken so, too: -1 is P - 1", T01NumbersTest::inputs);
        Edge.of("longs from outside are taken so, too: -1 is P - 1", T01NumbersTest::errors);
        Edge.of("longs from outside are taken so, too: -1 is P - 1", T01NumbersTest::errorsThatAreNone);
        Edge.end();
    }

    private static void leastAndLargest() {
        new Desk().loads(9, 1, 31, 255, 255, 255, 255, 255, 255, 254, 11, 0,
            2, 0, 1, 0, 0, 0, 0, 0, 0, 0, 1, 4, 11, 1,
            1, 0, 0, 0, 0, 0, 0, 0, 0, 11, 2, 0)
            .due("begin", 1).due("run 2000", 8).clears(0, P - 1, 0, 0).clears(1, P - 1, 0, 0);
    }

    private static void clearOnesWrap() {
        new Desk().starts("a=-1;b=a+1;c=a+a;d=0-1;e=0-a;f=a*a;g=-0;h=-a;i=a^;j=a*2;k=1-1;l=0*a;m=a-a;").runs()
            .clears(0, P - 1, 0, P - 2, P - 1, 1, 1, 0, 1, 1, P - 2, 0, 0, 0);
    }

    private static void secretOnesWrap() {
        Desk d = new Desk().ready(3, "n=-1;o=n+1;p=n+n;q=0-n;r=n*n;s=n*2;t=-n;u=n^;v=-o;>n;>o;>p;>q;>r;>s;>t;>u;>v;").runs();
        for (int i = 0; i < 3; i++) {
            d.outputs(i, P - 1, 0, P - 2, 1, 1, P - 2, 1, 1, 0);
        }
    }

    private static void arraysWrap() {
        Desk d = new Desk().ready(2, "A[0]=-1;A[15]=-1;B=A+A;C=A*A;D=C-B;E=A+A;F=E*E;G=E-F;n=E.F;o=G[0];p=A.A;q=A.E;"
            + ">n;>o;>p;>q;").runs();
        for (int cell : new int[] {0, 15}) {
            d.each(2, "clear", " " + (100 + cell), P - 1).each(2, "clear", " " + (116 + cell), P - 2);
            d.each(2, "clear", " " + (132 + cell), 1).each(2, "clear", " " + (148 + cell), 3);
        }
        d.outputs(0, P - 16, P - 6, 2, 4).outputs(1, P - 16, P - 6, 2, 4);
    }

    /** Products whose upper and lower halves are both large. */
    private static void largeOnes() {
        java.math.BigInteger p = java.math.BigInteger.valueOf(P);
        long[] some = {999999999999999999L, 1L << 31, (1L << 31) - 1, 1L << 30, (1L << 58) + 12345, 4611686018427387L};
        for (long x : some) {
            for (long y : some) {
                java.math.BigInteger a = java.math.BigInteger.valueOf(x);
                java.math.BigInteger b = java.math.BigInteger.valueOf(y);
                new Desk().starts("a=" + x + ";b=-" + y + ";c=a*b;d=a*a*a;e=b^^;f=a-b;").runs().clears(1, x, P - y,
                    a.multiply(b).negate().mod(p).longValue(), a.pow(3).mod(p).longValue(), b.pow(4).mod(p).longValue(),
                    a.add(b).mod(p).longValue());
            }
        }
    }

    private static void inputs() {
        Desk d = new Desk().ready(2, "n<1;>n;");
        for (long[] pair : OUTSIDE) {
            d.due("give 1 " + pair[0], 1).due("begin", 1).runs().outputs(0, pair[1]).outputs(1, pair[1]);
        }
    }

    private static void errors() {
        Desk d = new Desk().ready(2, "a:n;n=1;b:n;");
        for (long[] pair : OUTSIDE) {
            d.due("begin", 1).due("tamper 1 0 0 " + pair[0], 1).due("tamper 0 1 0 " + pair[0], 1).runs();
            d.clears(0, pair[1], (pair[1] + 1) % P).clears(1, pair[1], (pair[1] + 1) % P);
        }
    }

    /** What is 0 modulo P is no error, so no check finds it. */
    private static void errorsThatAreNone() {
        Desk d = new Desk().ready(2, "a:n;>a;");
        for (long[] pair : OUTSIDE) {
            int cause = pair[1] == 0 ? 0 : 1;
            d.due("begin", 1).due("tamper 0 0 0 " + pair[0], 1).runs().each(2, "party", " 9", cause);
        }
    }
}
