/** Terms: THE HALL, THE DIGEST, GENERATORS, and what THE DEALER has dealt. */
public final class T06HallTest {
    private static final long[] SEEDS = {0, 1, -1, 123456789, Long.MIN_VALUE, Long.MAX_VALUE, Long.MAX_VALUE - 1000003, Desk.P, -9};

    public static void main(String[] args) {
        Edge.of("THE HALL has 2 .. 4 PARTIES, a SEED, WIRES with a BOUND, a DEALER", T06HallTest::partiesAndBounds);
        Edge.of("THE DIGEST of two longs x, y (eight ints; sums of ints wrap", T06HallTest::digests);
        Edge.of("shifted right by 3 without sign, modulo P", T06HallTest::numbersWithoutSign);
        Edge.of("PARTY i's own GENERATOR has SEED + 1000003 * (i + 1)", T06HallTest::ownGenerators);
        Edge.of("the lowest bits of the NEXTs of one that has SEED + 7000003", T06HallTest::bits);
        Edge.of("The BITS that the DEALER deals in a HALL are, one after the other", T06HallTest::bitsGoOn);
        Edge.of("THE DEALER has dealt so many MASKS for each PARTY", T06HallTest::masksOfEach);
        Edge.of("13 takes one MASK of its PARTY (with its SEND)", T06HallTest::masks);
        Edge.of("7 one TRIPLE, 10 one SQUARE, 27 one BIT (with its STEP)", T06HallTest::onesThatAreTaken);
        Edge.of("25 of two secret ARRAYS and 26 of such sixteen TRIPLES", T06HallTest::sixteenTriples);
        Edge.of("(each PARTY with its SEND; 25 and 26 with a clear one none)", T06HallTest::noTriples);
        Edge.of("(all in shares; each PARTY takes them in order)", T06HallTest::eachTakesItsOwn);
        Edge.end();
    }

    /** So many mails fit on a wire; the next one has to wait till each wire has room. */
    private static void partiesAndBounds() {
        for (int parties = 2; parties <= 4; parties++) {
            for (int bound = 1; bound <= 4; bound++) {
                Desk d = new Desk();
                d.due("hall " + parties + " 3 " + bound, 1).due("total 0", parties).due("total 5", bound).due("deal 0 6", 6);
                for (int i = 0; i < 6; i++) {
                    d.due("give 0 " + i, 1);
                }
                d.starts("n<0;".repeat(6));
                for (int i = 0; i < bound; i++) {
                    d.due("step 0", 1).due("step 0", 1);
                }
                d.due("step 0", 0).due("party 0 1", 2 * bound);
                for (int to = 1; to < parties; to++) {
                    d.due("party 0 1" + to, bound).due("step 0", 0).due("deliver 0 " + to, 1).due("party 0 1" + to, bound - 1);
                }
                d.due("step 0", 1).due("party 0 11", bound).due("party " + parties + " 0", -1).due("step " + parties, Desk.INDEX);
            }
        }
    }

    /** A hall in which each party has begun a check, with nothing taken of its generator before. */
    private static Desk bound(int parties, long seed) {
        Desk d = new Desk();
        return d.due("hall " + parties + " " + seed + " 1", 1).starts("a:n;>a;").due("run 4", 4 * parties);
    }

    private static void same(Desk d, int party, int from, long seed, int at) {
        long own = seed + 1000003L * (from + 1);
        byte[] bond = P19BoundTest.digest(P19BoundTest.next(own, at), P19BoundTest.next(own, at + 1));
        for (int k = 0; k < 32; k++) {
            d.due("bound " + party + " " + from + " " + k, bond[k] & 255);
        }
    }

    /** The digest of the document is the SHA-256 of sixteen bytes. */
    private static void digests() {
        for (long seed : SEEDS) {
            same(bound(2, seed), 0, 1, seed, 0);
        }
    }

    /** Enough coins and nonces that about half of them would be below 0 with a sign. */
    private static void numbersWithoutSign() {
        int below = 0;
        for (long seed = 0; seed < 16; seed++) {
            same(bound(2, seed), 1, 0, seed, 0);
            below += P19BoundTest.digest(seed + 1000003, 0)[0] < 0 ? 1 : 0;
        }
        Desk.same("some begin with a 1 and some with a 0", below > 2 && below < 14, true);
    }

    private static void ownGenerators() {
        for (long seed : new long[] {5, Long.MAX_VALUE, -3000009}) {
            Desk d = bound(4, seed);
            for (int from = 0; from < 4; from++) {
                same(d, 3 - from, from, seed, 0);
            }
        }
    }

    private static long bit(long seed, int i) {
        return P19BoundTest.next(seed + 7000003, i) & 1;
    }

    private static void bits() {
        for (long seed : SEEDS) {
            Desk d = new Desk();
            d.due("hall 2 " + seed + " 1", 1).due("deal -3 40", 40).starts("b=40;*b[n!;o=o*2+n;b=b-1;]a:o;").runs();
            long want = 0;
            for (int i = 0; i < 40; i++) {
                want = 2 * want + bit(seed, i);
            }
            d.each(2, "clear", " 0", want).due("total 6", 0);
        }
    }

    /** From run to run and however they are dealt; a new hall has the same ones from the first on. */
    private static void bitsGoOn() {
        Desk d = new Desk();
        d.due("hall 2 5 1", 1).due("deal -3 3", 3).starts("n!;a:n;n!;b:n;");
        for (int i = 0; i < 20; i += 2) {
            d.due("deal -3 2", 5).due("begin", 1).runs().clears(0, bit(5, i), bit(5, i + 1)).clears(1, bit(5, i), bit(5, i + 1));
        }
        d.due("begin", 1).due("step 0", 1).due("total 6", 3).due("deal -3 1", 4);
        d.due("begin", 1).due("total 6", 3).runs().clears(0, bit(5, 21), bit(5, 22)).clears(1, bit(5, 21), bit(5, 22));
        d.due("hall 3 5 1", 1).due("deal -3 2", 2).starts("n!;a:n;n!;b:n;").runs().clears(2, bit(5, 0), bit(5, 1));
    }

    private static void masksOfEach() {
        Desk d = new Desk();
        d.due("hall 3 0 1", 1).due("deal 1 1", 1).due("party 0 5", 0).due("party 1 5", 1).due("party 2 5", 0);
        d.due("give 0 5", 1).due("give 1 6", 1).starts("n<1;a:n;n<0;b:n;").runs();
        d.each(3, "clear", " 0", 6).due("party 0 7", 2).due("party 1 0", 1).due("party 0 6", 1).due("party 1 5", 0);
    }

    private static void masks() {
        Desk d = new Desk();
        d.due("deal 0 2", 2).due("deal 1 2", 2).due("give 0 5", 1).due("give 0 6", 1).starts("n<0;n<0;").due("party 0 5", 2);
        d.due("step 0", 1).due("party 0 5", 1).due("party 0 6", 1).due("step 0", 1).due("party 0 5", 1).due("step 0", 0);
        d.due("party 0 5", 1).due("party 0 6", 1).due("deliver 0 1", 1).due("step 0", 1).due("party 0 5", 0).due("party 0 6", 0);
        d.due("step 1", 1).due("party 1 5", 2);
    }

    private static void onesThatAreTaken() {
        String[] texts = {"n=n*n;", "n=n^;", "n!;"};
        int[] kinds = {1, 4, 6};
        for (int i = 0; i < 3; i++) {
            Desk d = new Desk();
            d.due("deal " + -(i + 1) + " 1", 1).starts(texts[i].repeat(2)).due("step 0", 1).due("step 1", 1);
            d.due("total " + kinds[i], 0).due("deliver 0 1", i == 2 ? 0 : 1).due("deliver 1 0", i == 2 ? 0 : 1);
            if (i < 2) {
                d.due("step 0", 1).due("step 0", 1);
            }
            d.due("step 0", 4).due("party 0 7", new int[] {3, 4, 6}[i]).due("party 0 1", i == 2 ? 1 : 3);
        }
    }

    private static void sixteenTriples() {
        for (String text : new String[] {"E=F*G;", "E=E*E;", "n=E.F;", "n=H.H;"}) {
            Desk d = new Desk();
            d.due("deal -1 15", 15).starts(text).due("step 0", 4).due("party 0 7", 3).due("total 1", 15);
            d.due("deal -1 1", 16).due("begin", 1).due("step 0", 1).due("step 1", 1).due("total 1", 0).runs();
            d.each(2, "party", " 0", 2).due("begin", 1).due("step 0", 4);
            Desk more = new Desk();
            more.due("deal -1 33", 33).starts(text).runs().due("total 1", 17).due("begin", 1).runs().due("total 1", 1);
        }
    }

    private static void noTriples() {
        for (String text : new String[] {"E=F*A;", "E=A*F;", "E=A*B;", "A=B*C;", "n=A.E;", "n=E.A;", "n=A.B;", "E=F+G;", "E=F-G;", "n=n*a;"}) {
            new Desk().starts(text).runs().each(2, "party", " 0", 2).each(2, "party", " 2", 0).each(2, "party", " 3", 0);
        }
        Desk d = new Desk();
        d.due("hall 3 0 1", 1).due("deal -1 16", 16).starts("E=F*G;").due("step 1", 1).due("total 1", 16).due("step 1", 0);
        d.due("step 0", 1).due("total 1", 16).due("step 2", 1).due("total 1", 0).due("step 2", 0);
    }

    /** Another party's step takes nothing away from one. */
    private static void eachTakesItsOwn() {
        Desk d = new Desk();
        d.due("deal -3 1", 1).starts("n!;a:n;").due("step 0", 1).due("total 6", 1).due("step 1", 1).due("total 6", 0).runs();
        d.each(2, "clear", " 0", bit(0, 0)).each(2, "party", " 0", 2);
    }
}
