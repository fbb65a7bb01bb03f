import java.math.BigInteger;

/** Terms: A CHECK, how a party fails, and what an ERROR does. */
public final class T08CheckTest {
    public static void main(String[] args) {
        Edge.of("A CHECK: four times SEND, RECEIVE (coins bound, coins shown, sums bound, sums shown)", T08CheckTest::fourTimes);
        Edge.of("of all numbers that were OPENED since the CHECK before (by 7, 10, 14, 16, 25, 26), in order", T08CheckTest::whatIsOpened);
        Edge.of("of all numbers that were OPENED since the CHECK before (by 7, 10, 14, 16, 25, 26), in order", T08CheckTest::inOrder);
        Edge.of("of all numbers that were OPENED since the CHECK before (by 7, 10, 14, 16, 25, 26), in order", T08CheckTest::manyNumbers);
        Edge.of("of all numbers that were OPENED since the CHECK before (by 7, 10, 14, 16, 25, 26), in order",
            T08CheckTest::errorsOfTheCheckAlone);
        Edge.of("none at all (no STEPS; it is not counted either), if there are none", T08CheckTest::noneOpened);
        Edge.of("In the first SEND a PARTY takes its coin and a nonce, in the third one (sums bound) another nonce", T08CheckTest::drawn);
        Edge.of("its own GENERATOR's NEXTs (which go on from RUN to RUN; a HALL begins them anew)", T08CheckTest::goOn);
        Edge.of("With the last RECEIVE a PARTY FAILS (CAUSE 1)", T08CheckTest::withTheLastReceive);
        Edge.of("if KEY * (r1 * e1 + r2 * e2 + ..) is not 0", T08CheckTest::thatFitTheCoins);
        Edge.of("r are the NEXTs of a GENERATOR that has the sum of all coins (modulo P)", T08CheckTest::coinsThatWrap);
        Edge.of("e is the ERROR that was added to that number in all", T08CheckTest::thatCancelOut);
        Edge.of("It puts a NOTICE on each of its WIRES then (whatever the BOUND)", T08CheckTest::noticesOnFullWires);
        Edge.of("Once a NOTICE is delivered to a PARTY that goes on, it FAILS at its next STEP, instead of that",
            T08CheckTest::failsByNotice);
        Edge.of("also if it would LACK something or WAIT (CAUSE 2; the STEP is not DONE; it puts none)", T08CheckTest::noticeGoesAhead);
        Edge.of("An ERROR that is added to what a PARTY SENDS (but in CHECKS)", T08CheckTest::notInChecks);
        Edge.of("is in what all PARTIES have then, itself too: of an input it counts as the input's", T08CheckTest::ofAnInput);
        Edge.of("the product is (x + d) * (y + e)", T08CheckTest::ofAProduct);
        Edge.of("the product is (x + d) * (y + e)", T08CheckTest::ofArrays);
        Edge.of("of a square to its number d: (x + d) squared", T08CheckTest::ofASquare);
        Edge.of("of an OPENED one it is in that (ERRORS of several PARTIES add up)", T08CheckTest::ofAnOpenedOne);
        Edge.end();
    }

    private static void fourTimes() {
        Desk d = new Desk().ready(3, "a:n;>a;").due("run 2", 6);
        for (int i = 0; i < 4; i++) {
            d.each(3, "party", " 2", 1 + i).each(3, "party", " 3", 1 + i).each(3, "party", " 8", 0);
            d.due("run 1", 3).each(3, "party", " 2", 2 + i).each(3, "party", " 3", 1 + i).due("run 1", 3);
        }
        d.each(3, "party", " 8", 1).each(3, "party", " 4", 0).due("run 1", 3).each(3, "party", " 4", 1).each(3, "party", " 1", 11);
    }

    private static void whatIsOpened() {
        String[] open = {"n=n*n;", "n=n^;", "a:n;", "E=F*G;", "n=E.F;"};
        for (String text : open) {
            new Desk().ready(2, text + ">a;").runs().each(2, "party", " 8", 1).each(2, "party", " 2", 5);
        }
        for (String text : new String[] {"n<0;", "n!;", "n=a*n;", "E=A*F;", "n=A.E;", "E=F+G;", "a=a*a;", "a=a^;", "n=n-o;", "A=B*C;"}) {
            new Desk().ready(2, text + ">a;").due("give 0 1", 1).runs().each(2, "party", " 8", 0).each(2, "party", " 4", 1);
        }
        new Desk().ready(2, ">n;").runs().each(2, "party", " 8", 1).each(2, "party", " 2", 5);
        new Desk().ready(2, "a:n;>n;").runs().each(2, "party", " 8", 2).each(2, "party", " 2", 10);
        new Desk().ready(2, ">n;>a;>n;>a;").runs().each(2, "party", " 8", 2).each(2, "party", " 4", 4);
    }

    /** An error is weighed by its number's place among all that were opened, of each operation. */
    private static void inOrder() {
        for (int change = 0; change < 2; change++) {
            fitting(2, "n=n*o;a:n;>a;", 0, 0, new int[][] {{0, 1, 1}, {1, 0, 2}}, change);
            fitting(3, "n=n^;n=n^;>a;", 0, 0, new int[][] {{0, 0, 0}, {1, 0, 1}}, change);
            fitting(2, "E=F*G;a:n;>a;", 0, 0, new int[][] {{0, 31, 31}, {1, 0, 32}}, change);
            fitting(4, "n=n^;c:n;G=E*F;p=E.F;>c;", 0, 0, new int[][] {{2, 30, 32}, {3, 1, 35}}, change);
            fitting(2, "o<0;n!;a:n;H=A*E;n=A.E;b:n;>a;", 0, 0, new int[][] {{1, 0, 0}, {1, 0, 1}}, change);
        }
    }

    /** Errors far behind the fortieth number are found as well, and forty of them are weighed. */
    private static void manyNumbers() {
        for (int n = 0; n < 3; n++) {
            Desk d = new Desk().ready(2, "E=F*G;E=F*G;E=F*G;>a;").due("tamper 1 " + n + " 31 1", 1).runs();
            d.each(2, "party", " 9", 1).each(2, "party", " 8", 1);
        }
        for (int change = 0; change < 2; change++) {
            BigInteger p = BigInteger.valueOf(Desk.P);
            long coins = coins(2, 0);
            BigInteger sum = BigInteger.ZERO;
            Desk d = new Desk().ready(2, "E=F*G;" + "a:n;".repeat(8) + ">a;");
            for (int i = 0; i < 39; i++) {
                sum = sum.add(BigInteger.valueOf(P19BoundTest.next(coins, i)));
                d.due(i < 32 ? "tamper 0 0 " + i + " 1" : "tamper 1 " + (i - 31) + " 0 1", 1);
            }
            BigInteger last = sum.negate().multiply(BigInteger.valueOf(P19BoundTest.next(coins, 39)).modInverse(p)).mod(p);
            d.due("tamper 0 8 0 " + (last.longValue() + change), 1).runs().each(2, "party", " 9", change);
        }
    }

    /** Neither the errors of a run before nor those of a check before are weighed again. */
    private static void errorsOfTheCheckAlone() {
        for (int change = 0; change < 2; change++) {
            Desk d = new Desk().ready(2, "p=n*o;b:n;c:n;d:n;>q;>q;");
            for (int n = 1; n < 4; n++) {
                d.due("tamper 0 " + n + " 0 " + n, 1);
            }
            d.runs().each(2, "party", " 9", 1).due("begin", 1);
            d.due("tamper 0 0 1 5", 1).due("tamper 1 1 0 " + (fitting(coins(2, 3), 1, 2) + change), 1).runs();
            d.each(2, "party", " 9", change).each(2, "party", " 8", change == 0 ? 3 : 1).each(2, "party", " 4", change == 0 ? 2 : 0);
            if (change == 0) {
                d.outputs(0, 0, 0).outputs(1, 0, 0);
            }
        }
    }

    private static void noneOpened() {
        new Desk().ready(2, ">a;>b;").due("run 2000", 4).each(2, "party", " 8", 0).each(2, "party", " 2", 0).each(2, "party", " 1", 2);
        new Desk().ready(2, "a:n;>a;>a;>b;").due("run 2000", 2 * (2 + 8 + 3)).each(2, "party", " 8", 1);
        new Desk().ready(2, ">n;").due("run 2000", 2 * (2 + 8 + 1)).each(2, "party", " 8", 1);
        Desk none = new Desk().ready(2, ">a;").runs();
        none.due("bound 0 0 0", Desk.ELEMENT).due("party 0 3", 0);
    }

    private static void bond(Desk d, int party, int from, long seed, int at) {
        long own = seed + 1000003L * (from + 1);
        byte[] bytes = P19BoundTest.digest(P19BoundTest.next(own, at), P19BoundTest.next(own, at + 1));
        for (int k = 0; k < 32; k += 5) {
            d.due("bound " + party + " " + from + " " + k, bytes[k] & 255);
        }
    }

    /** Two numbers of the generator with the first send, one with the third; one that waits takes none. */
    private static void drawn() {
        int[] rounds = {2, 3, 4, 5, 6, 7, 8, 9, 10, 11};
        int[] taken = {0, 2, 2, 2, 2, 3, 3, 3, 3, 3};
        for (int i = 0; i < rounds.length; i++) {
            Desk d = new Desk();
            d.due("hall 2 9 1", 1).starts("a:n;>a;").due("run " + rounds[i], 2 * rounds[i]).due("begin", 1).due("run 4", 8);
            bond(d, 0, 1, 9, taken[i]);
            bond(d, 1, 1, 9, taken[i]);
        }
        Desk waits = new Desk();
        waits.due("hall 2 9 1", 1).starts("a:n;>a;").due("step 0", 1).due("step 1", 1).due("deliver 1 0", 1).due("step 0", 1);
        waits.all("step", 0, "0", "0", "0").due("begin", 1).due("run 4", 8);
        bond(waits, 1, 0, 9, 0);
        Desk one = new Desk();
        one.due("hall 2 9 1", 1).starts("a:n;>a;").due("run 2", 4).due("step 1", 1).due("begin", 1).due("run 4", 8);
        bond(one, 0, 0, 9, 0);
        bond(one, 0, 1, 9, 2);
    }

    private static void goOn() {
        Desk d = new Desk();
        d.due("hall 3 9 1", 1).starts(">n;>n;");
        for (int i = 0; i < 4; i++) {
            d.due("begin", 1).due("run 4", 12);
            bond(d, 2, 1, 9, 6 * i);
            d.runs();
            bond(d, 2, 1, 9, 6 * i + 3);
        }
        d.starts("a:n;>a;").due("run 4", 12);
        bond(d, 1, 2, 9, 24);
        d.due("hall 9 9 9", 0).due("begin", 1).due("run 4", 12);
        bond(d, 1, 2, 9, 26);
        d.due("hall 3 9 1", 1).starts("a:n;>a;").due("run 4", 12);
        bond(d, 1, 2, 9, 0);
    }

    private static void withTheLastReceive() {
        Desk d = new Desk().ready(3, "a:n;>a;");
        d.due("tamper 1 0 0 9", 1).due("run 9", 27).each(3, "party", " 0", 1).each(3, "party", " 9", 0).each(3, "party", " 8", 0);
        d.due("step 0", 3).due("party 0 0", 3).due("party 0 9", 1).due("party 0 1", 10).due("party 0 3", 5).due("party 0 2", 5);
        d.due("party 0 8", 1).due("party 0 4", 0).due("total 2", 28).due("step 0", 3).due("total 2", 28).due("party 0 1", 10);
    }

    /**
     * Who knows the coins ahead can choose errors whose weighted sum is 0: no check finds these. With
     * one of them changed by 1 they are found.
     */
    private static void thatFitTheCoins() {
        for (int change = 0; change < 2; change++) {
            fitting(2, "a:n;b:n;>a;", 0, 0, new int[][] {{0, 0, 0}, {1, 0, 1}}, change);
            fitting(3, "p=n*o;c:n;a:p;b:n;>a;", 0, 0, new int[][] {{0, 1, 1}, {3, 0, 4}}, change);
            fitting(4, "a:n;b:n;c:n;d:n;>a;", 0, 0, new int[][] {{1, 0, 1}, {3, 0, 3}}, change);
            fitting(2, "a:n;>n;b:n;c:n;>a;", 6, 3, new int[][] {{2, 0, 0}, {3, 0, 1}}, change);
        }
    }

    /**
     * Two errors (send, number in it, number in the check); ahead of the check each party has drawn
     * some of its numbers, and so many checks have been.
     */
    private static void fitting(int parties, String text, int drawn, int skipped, int[][] errors, int change) {
        long e = fitting(coins(parties, drawn), errors[0][2], errors[1][2]);
        Desk d = new Desk().ready(parties, text).due("give 0 1", 1);
        d.due("tamper 0 " + errors[0][0] + " " + errors[0][1] + " 5", 1);
        d.due("tamper 1 " + errors[1][0] + " " + errors[1][1] + " " + (e + change), 1).runs();
        d.each(parties, "party", " 9", change).each(parties, "party", " 8", 1 + (skipped == 0 ? 0 : 2));
        d.each(parties, "party", " 0", change == 0 ? 2 : 3);
    }

    /** Sums of two coins below P and beyond it. */
    private static void coinsThatWrap() {
        int below = 0;
        for (long seed = 0; seed < 8; seed++) {
            BigInteger sum = coinSum(2, seed, 0);
            long coins = sum.mod(BigInteger.valueOf(Desk.P)).longValue();
            below += sum.longValueExact() == coins ? 1 : 0;
            Desk d = new Desk().due("hall 2 " + seed + " 1", 1).starts("a:n;b:n;>a;").due("tamper 0 0 0 5", 1);
            d.due("tamper 0 1 0 " + fitting(coins, 0, 1), 1).runs().each(2, "party", " 0", 2).outputs(0, 5).outputs(1, 5);
        }
        Desk.same("some sums are below P and some are not", below > 0 && below < 8, true);
    }

    private static BigInteger coinSum(int parties, long seed, int drawn) {
        BigInteger sum = BigInteger.ZERO;
        for (int i = 0; i < parties; i++) {
            sum = sum.add(BigInteger.valueOf(P19BoundTest.next(seed + 1000003L * (i + 1), drawn)));
        }
        return sum;
    }

    /** The sum of all coins, in a hall as the tests' desk makes it ready. */
    private static long coins(int parties, int drawn) {
        return coinSum(parties, 77, drawn).mod(BigInteger.valueOf(Desk.P)).longValue();
    }

    /** The error in one number of a check that goes with an error of 5 in another one. */
    private static long fitting(long coins, int withFive, int other) {
        BigInteger p = BigInteger.valueOf(Desk.P);
        BigInteger first = BigInteger.valueOf(P19BoundTest.next(coins, withFive));
        BigInteger second = BigInteger.valueOf(P19BoundTest.next(coins, other));
        return first.multiply(BigInteger.valueOf(-5)).multiply(second.modInverse(p)).mod(p).longValue();
    }

    private static void thatCancelOut() {
        Desk d = new Desk().ready(2, "n<0;a:n;o=n*n;>n;>o;");
        d.due("give 0 7", 1).due("tamper 0 1 0 5", 1).due("tamper 1 0 0 -5", 1).due("tamper 0 2 1 9", 1);
        d.due("tamper 0 2 1 " + (Desk.P - 9), 1).due("tamper 0 3 0 4", 1).due("tamper 1 2 0 " + (Desk.P - 4), 1).runs();
        d.each(2, "clear", " 0", 7).outputs(0, 7, 49).outputs(1, 7, 49).each(2, "party", " 0", 2);
        new Desk().ready(2, "a:n;b:n;>a;").due("tamper 0 0 0 5", 1).due("tamper 0 1 0 -5", 1).runs().each(2, "party", " 9", 1);
        new Desk().ready(2, "n=n*o;>a;").due("tamper 0 0 0 5", 1).due("tamper 1 0 1 -5", 1).runs().each(2, "party", " 9", 1);
        new Desk().ready(4, "a:n;>a;").due("tamper 0 0 0 5", 1).due("tamper 1 0 0 6", 1).due("tamper 3 0 0 -11", 1).runs()
            .each(4, "party", " 9", 0).each(4, "output", " 0", 0);
    }

    private static void noticesOnFullWires() {
        for (int bound = 1; bound <= 4; bound++) {
            Desk d = new Desk();
            d.due("hall 3 3 " + bound, 1).starts("a:n;>a;").due("tamper 0 0 0 1", 1).due("run 8", 24).each(3, "step", "", 1);
            d.due("deliver 1 0", 1).due("deliver 2 0", 1).due("party 0 11", 1).due("party 0 12", 1).due("step 0", 3);
            d.due("party 0 11", 2).due("party 0 12", 2).due("party 0 10", 0).due("party 1 10", 0).due("party 1 12", 1);
            d.due("deliver 0 1", 1).due("party 1 20", 1).due("party 0 11", 1).due("deliver 0 1", 1).due("party 1 20", 1);
            d.due("party 0 11", 0).due("deliver 0 1", 0).due("deliver 0 2", 1).due("step 2", 0).due("deliver 1 2", 1).due("step 2", 3);
            d.due("party 2 9", 1).due("party 2 10", 1).due("party 2 11", 2).due("party 0 12", 1).due("step 1", 3).due("party 1 9", 2);
        }
    }

    private static void failsByNotice() {
        Desk d = new Desk().ready(3, "a:n;>a;");
        d.due("tamper 1 0 0 9", 1).due("run 9", 27).due("step 0", 3).due("party 0 11", 1).due("party 0 12", 1);
        d.due("deliver 0 1", 1).due("party 1 0", 1).due("party 1 9", 0).due("party 1 20", 1).due("step 1", 3).due("party 1 9", 2);
        d.due("party 1 0", 3).due("party 1 1", 9).due("party 1 8", 0).due("party 1 3", 4).due("total 2", 28).due("party 1 20", 1);
        d.due("party 1 10", 0).due("party 1 12", 0).due("step 2", 3).due("party 2 9", 1).due("party 2 10", 1).due("party 2 11", 1);
        d.due("deliver 2 1", 1).due("deliver 2 0", 1).due("party 0 9", 1).due("party 1 9", 2).due("step 1", 3).due("step 0", 3);
        d.due("total 2", 29);
    }

    /** A notice makes a party fail also where it would wait; it puts none on its own wires. */
    private static void noticeGoesAhead() {
        Desk d = new Desk().ready(4, "a:n;>a;");
        d.due("tamper 1 0 0 9", 1).due("run 8", 32).each(4, "step", "", 1);
        for (int from = 1; from < 4; from++) {
            d.due("deliver " + from + " 0", 1);
        }
        d.due("step 0", 3).due("step 3", 0).due("deliver 0 3", 1).due("step 3", 0).due("deliver 0 3", 1).due("party 3 0", 1);
        d.due("step 3", 3).due("party 3 9", 2).due("party 3 8", 0).due("party 3 1", 9).due("deliver 0 3", 0).due("step 3", 3);
        d.due("party 3 11", 1).due("party 3 12", 1).due("party 3 10", 0).due("deliver 3 1", 1).due("deliver 3 1", 0);
        d.due("step 1", 0).due("party 1 9", 0);
    }

    /** The sends of checks are not counted, so no error comes into these. */
    private static void notInChecks() {
        Desk d = new Desk().ready(2, "a:n;>a;b:n;c:n;");
        for (int k = 0; k < 4; k++) {
            d.due("tamper 0 1 " + k + " 6", 1).due("tamper 1 2 " + k + " 7", 1);
        }
        d.runs().each(2, "party", " 0", 2).clears(0, 0, 6, 7).clears(1, 0, 6, 7).each(2, "output", " 0", 0);
    }

    private static void ofAnInput() {
        Desk d = new Desk().ready(3, "n<1;o<1;>n;>o;");
        d.due("give 1 10", 1).due("give 1 20", 1);
        d.due("tamper 1 1 0 -3", 1).due("tamper 1 0 0 5", 1).due("tamper 1 0 1 7", 1).due("tamper 0 2 0 7", 1).runs();
        d.each(3, "output", " 0", 15).each(3, "output", " 1", 17).each(3, "party", " 9", 0).each(3, "party", " 0", 2);
        new Desk().ready(2, "n<0;a:n;").due("give 0 0", 1).due("tamper 0 0 0 -1", 1).runs().clears(0, Desk.P - 1).clears(1, Desk.P - 1);
        new Desk().ready(2, "n<0;a:n;").due("give 0 -1", 1).due("tamper 0 0 0 1", 1).runs().clears(0, 0).clears(1, 0);
    }

    /** An error in a product is seen in what is opened, ahead of the check that finds it. */
    private static void ofAProduct() {
        Desk d = new Desk().ready(2, "n<0;o<1;p=n*o;a:p;>a;");
        d.due("give 0 10", 1).due("give 1 20", 1).due("tamper 0 1 0 1", 1).due("tamper 1 1 1 2", 1).due("tamper 1 1 0 1", 1).runs();
        d.each(2, "clear", " 0", 12 * 22).each(2, "party", " 0", 3).each(2, "party", " 9", 1).each(2, "party", " 4", 0);
        Desk order = new Desk().ready(2, "n<0;o<0;p=(n-o)*n;a:p;");
        order.due("give 0 10", 1).due("give 0 4", 1).due("tamper 0 2 0 100", 1).due("tamper 1 0 2 7", 1).due("run 2000", 18);
        order.each(2, "clear", " 0", 1060);
    }

    private static void ofArrays() {
        Desk d = new Desk().ready(2, "E[0]=2;F[0]=3;E[15]=4;F[15]=5;G=E*F;n=G[0];a:n;n=G[15];b:n;n=G[7];c:n;");
        d.due("tamper 0 0 0 10", 1).due("tamper 1 0 31 100", 1).due("tamper 0 0 30 1", 1).due("tamper 1 0 14 6", 1);
        d.due("tamper 1 0 15 7", 1).runs();
        d.each(2, "clear", " 0", 36).each(2, "clear", " 1", 525).each(2, "clear", " 2", 42).each(2, "party", " 0", 2);
        Desk dot = new Desk().ready(2, "E[0]=2;F[0]=3;E[15]=4;F[15]=5;n=E.F;a:n;n=A.E;b:n;>a;");
        dot.due("tamper 0 0 1 10", 1).due("tamper 1 0 30 100", 1).runs();
        dot.each(2, "clear", " 0", 26 + 520).each(2, "clear", " 1", 0).each(2, "party", " 0", 3);
    }

    private static void ofASquare() {
        Desk d = new Desk().ready(2, "n<0;p=n^;b:p;>b;");
        d.due("give 0 10", 1).due("tamper 0 1 0 5", 1).due("tamper 0 1 1 9", 1).runs().each(2, "clear", " 1", 225).each(2, "party", " 9", 1);
        Desk two = new Desk().ready(2, "n<0;p=n^;b:p;");
        two.due("give 0 10", 1).due("tamper 0 1 0 -4", 1).due("tamper 1 0 0 -7", 1).runs().each(2, "clear", " 1", 1);
    }

    private static void ofAnOpenedOne() {
        Desk d = new Desk().ready(4, "n<0;a:n;>n;");
        d.due("give 0 7", 1).due("tamper 2 0 0 5", 1).due("tamper 3 0 0 -6", 1).due("tamper 2 0 0 3", 1).runs();
        d.each(4, "clear", " 0", 9).each(4, "party", " 9", 1).each(4, "party", " 4", 0).each(4, "party", " 8", 1);
        Desk shown = new Desk().ready(2, ">n;");
        shown.due("tamper 0 0 0 1", 1).due("run 2000", 20).each(2, "party", " 0", 3).each(2, "party", " 8", 1);
        shown.each(2, "party", " 2", 5).each(2, "party", " 3", 5).each(2, "party", " 4", 0);
    }
}
