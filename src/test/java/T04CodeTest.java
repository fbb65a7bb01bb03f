/** Terms: CODE, what its operations do, and what a program becomes. */
public final class T04CodeTest {
    private static final long P = Desk.P;

    public static void main(String[] args) {
        Edge.of("it works on a PILE of clear and secret NUMBERS", T04CodeTest::fullPile);
        Edge.of("it works on a PILE of clear and secret NUMBERS", T04CodeTest::pileStays);
        Edge.of("0 the end", T04CodeTest::theEnd);
        Edge.of("1 and 8 bytes, the highest first: a NUMBER comes to the PILE", T04CodeTest::numbers);
        Edge.of("2 p: clear VARIABLE p (0 .. 12). 3 p: secret VARIABLE p (0 .. 12)", T04CodeTest::variables);
        Edge.of("the two latest ones give one", T04CodeTest::twoGiveOne);
        Edge.of("12 p: it (clear or secret) goes to secret VARIABLE p", T04CodeTest::toSecret);
        Edge.of("13 p, q: an input of PARTY q goes to secret VARIABLE p", T04CodeTest::inputs);
        Edge.of("14 p, q: secret VARIABLE q is OPENED, into clear VARIABLE p", T04CodeTest::opened);
        Edge.of("15 p: clear VARIABLE p is put out. 16 p: secret one", T04CodeTest::putOut);
        Edge.of("17 p, q, r: on at place 256 * q + r, if clear VARIABLE p is 0", T04CodeTest::unless);
        Edge.of("18 q, r: on there", T04CodeTest::farPlaces);
        Edge.of("19 p: the place of clear ARRAY p (0 .. 3) that the latest one tells, instead of it", T04CodeTest::clearPlaces);
        Edge.of("20 p: of secret ARRAY p (0 .. 3)", T04CodeTest::secretPlaces);
        Edge.of("21 p: the latest one goes to the place of clear ARRAY p that the one below tells", T04CodeTest::toPlaces);
        Edge.of("22 p: (clear or secret) of secret ARRAY p", T04CodeTest::toSecretPlaces);
        Edge.of("23 p, q, r: ARRAY p (0 .. 7: A .. H) becomes q + r, 24 q - r, 25 q * r", T04CodeTest::arrays);
        Edge.of("26 p, q: the sum of products of ARRAYS p and q comes to the PILE, secret", T04CodeTest::sumOfProducts);
        Edge.of("27 p: a BIT goes to secret VARIABLE p", T04CodeTest::bits);
        Edge.of("the place behind this OPERATION is KEPT", T04CodeTest::kept);
        Edge.of("29: on at the place that was KEPT last, which is KEPT no more", T04CodeTest::keptNoMore);
        Edge.of("of X its parts in the order in which they are worked, each behind its own", T04CodeTest::expressions);
        Edge.of("v=X: X, then 11 or 12; R[X]=X: the place, X, then 21 or 22; v=R.R: 26, 12", T04CodeTest::statements);
        Edge.of("?v[S|T]: 17 to T, S, 18 behind T, T; *v[S]: 17 behind it, S, 18 to that 17", T04CodeTest::blocks);
        Edge.of("@d[S]: 18 behind it, S, 29; @d;: 28 to that S; others as told; at the end 0", T04CodeTest::routines);
        Edge.of("@d[S]: 18 behind it, S, 29; @d;: 28 to that S; others as told; at the end 0", T04CodeTest::longest);
        Edge.end();
    }

    private static int[] join(int[]... parts) {
        int length = 0;
        for (int[] part : parts) {
            length += part.length;
        }
        int[] all = new int[length];
        int at = 0;
        for (int[] part : parts) {
            System.arraycopy(part, 0, all, at, part.length);
            at += part.length;
        }
        return all;
    }

    private static int[] bytes(int... values) {
        return values;
    }

    private static int[] number(long value) {
        int[] all = new int[9];
        all[0] = 1;
        for (int i = 0; i < 8; i++) {
            all[8 - i] = (int) (value >>> 8 * i & 255);
        }
        return all;
    }

    /** All that can be dealt, code that is let through, and a run of it. */
    private static Desk runs(int operations, int... code) {
        Desk d = new Desk();
        d.due("deal -1 200", 200).due("deal -2 200", 200).due("deal -3 200", 200).due("deal 0 200", 200).due("deal 1 200", 200);
        return d.loads(operations, code).due("begin", 1).runs();
    }

    /** All 64 that the pile can have, added up from the latest one on. */
    private static void fullPile() {
        int[] code = {};
        for (int i = 1; i <= 64; i++) {
            code = join(code, number(1000L * i));
        }
        int[] sums = new int[63];
        java.util.Arrays.fill(sums, 4);
        runs(130, join(code, sums, bytes(11, 0, 15, 0, 0))).outputs(0, 2080000).outputs(1, 2080000);
        int[] secret = join(number(7), bytes(12, 0));
        for (int i = 0; i < 63; i++) {
            secret = join(secret, bytes(3, 0));
        }
        secret = join(secret, bytes(26, 4, 5));
        runs(2 + 64 + 63 + 3, join(secret, sums, bytes(12, 1, 14, 0, 1, 0))).clears(0, 441).clears(1, 441);
    }

    /** What is on the pile stays there while others send, receive and check. */
    private static void pileStays() {
        int[][] between = {{13, 1, 0}, {14, 1, 0}, {15, 0}, {16, 0}, {27, 1}, {23, 0, 1, 2}, {25, 4, 5, 6}, {25, 4, 0, 6}};
        for (int[] operation : between) {
            Desk d = new Desk();
            d.due("deal -1 32", 32).due("deal -3 2", 2).due("deal 0 1", 1).due("give 0 9", 1);
            d.loads(7, join(number(40), number(3), operation, bytes(5, 11, 3, 15, 3, 0))).due("begin", 1).runs();
            d.each(2, "clear", " 3", 37).each(2, "party", " 0", 2).each(2, "clear", " 12", 0);
        }
        runs(7, join(number(3), bytes(12, 0, 3, 0, 10, 12, 0, 14, 0, 0, 0))).each(2, "clear", " 0", 9).each(2, "clear", " 12", 0);
        runs(8, join(number(3), bytes(12, 0, 3, 0, 3, 0, 7, 12, 0, 14, 0, 0, 0))).each(2, "clear", " 0", 9).each(2, "clear", " 12", 0);
    }

    private static void theEnd() {
        runs(4, join(bytes(0), number(5), bytes(11, 0, 0))).each(2, "party", " 0", 2).each(2, "party", " 1", 0).clears(0, 0);
        runs(7, join(number(5), bytes(11, 0, 0), number(6), bytes(11, 0, 15, 0, 0))).each(2, "party", " 0", 2).clears(0, 5);
        runs(5, join(bytes(18, 0, 4, 0), number(6), bytes(11, 0, 0))).each(2, "party", " 0", 2).clears(0, 6);
    }

    private static void numbers() {
        runs(3, join(bytes(1, 1, 2, 3, 4, 5, 6, 7, 8), bytes(11, 0, 0))).clears(1, 0x0102030405060708L);
        runs(3, join(bytes(1, 31, 255, 255, 255, 255, 255, 255, 254), bytes(11, 0, 0))).clears(1, P - 1);
        runs(3, join(bytes(1, 0, 0, 0, 0, 0, 0, 0, 0), bytes(11, 0, 0))).clears(1, 0);
        runs(3, join(bytes(1, 16, 128, 128, 128, 128, 128, 128, 128), bytes(11, 0, 0))).clears(1, 0x1080808080808080L);
    }

    private static void variables() {
        int[] code = {};
        for (int p = 0; p < 13; p++) {
            code = join(code, number(p + 1), bytes(11, p), number(100 + p), bytes(12, p));
        }
        for (int p = 0; p < 13; p++) {
            code = join(code, bytes(2, p, 3, p, 4, 12, p));
        }
        for (int p = 0; p < 13; p++) {
            code = join(code, bytes(14, p, p));
        }
        Desk d = runs(13 * 9 + 1, join(code, bytes(0)));
        for (int p = 0; p < 13; p++) {
            d.each(2, "clear", " " + p, 101 + 2 * p);
        }
    }

    private static void twoGiveOne() {
        int[] two = join(number(9), number(4));
        runs(5, join(two, bytes(4, 11, 0, 0))).clears(0, 13);
        runs(5, join(two, bytes(5, 11, 0, 0))).clears(0, 5);
        runs(5, join(two, bytes(6, 11, 0, 0))).clears(0, 36);
        runs(7, join(number(1), two, bytes(5, 5, 11, 0, 0))).clears(0, P - 4);
        runs(4, join(number(9), bytes(8, 11, 0, 0))).clears(0, P - 9);
        runs(4, join(number(9), bytes(9, 11, 0, 0))).clears(0, 81);
        int[] secret = join(number(9), bytes(12, 0), number(4), bytes(12, 1, 3, 0, 3, 1));
        int[] shown = bytes(12, 2, 16, 2, 0);
        runs(10, join(secret, bytes(4), shown)).outputs(0, 13).outputs(1, 13);
        runs(10, join(secret, bytes(5), shown)).outputs(0, 5).outputs(1, 5);
        runs(10, join(secret, bytes(7), shown)).outputs(0, 36).outputs(1, 36);
        runs(12, join(secret, bytes(10, 8, 5), shown)).outputs(0, 25).outputs(1, 25);
    }

    private static void toSecret() {
        runs(4, join(number(7), bytes(12, 12, 14, 0, 12, 0))).outputs(0).clears(0, 7);
        runs(6, join(number(7), bytes(12, 0, 3, 0, 12, 12, 14, 0, 12, 0))).clears(0, 7);
        runs(7, join(number(7), bytes(12, 12), number(8), bytes(12, 12, 14, 12, 12, 15, 12, 0))).outputs(0, 8);
    }

    private static void inputs() {
        for (int q = 0; q < 2; q++) {
            Desk d = new Desk();
            d.due("deal 0 2", 2).due("deal 1 2", 2).due("give " + q + " 5", 1).due("give " + q + " 6", 1);
            d.loads(5, 13, 0, q, 13, 12, q, 14, 0, 0, 14, 12, 12, 0).due("begin", 1).runs();
            d.each(2, "clear", " 0", 5).each(2, "clear", " 12", 6).due("party " + q + " 5", 0).due("party " + (1 - q) + " 5", 2);
        }
    }

    private static void opened() {
        runs(7, join(number(3), bytes(12, 0), number(4), bytes(12, 12, 14, 12, 0, 14, 0, 12, 0)))
            .each(2, "clear", " 12", 3).each(2, "clear", " 0", 4);
    }

    private static void putOut() {
        int[] set = join(number(3), bytes(11, 0), number(4), bytes(11, 12), number(5), bytes(12, 0), number(6), bytes(12, 12));
        runs(13, join(set, bytes(15, 0, 15, 12, 16, 0, 16, 12, 0))).outputs(0, 3, 4, 5, 6).outputs(1, 3, 4, 5, 6);
    }

    private static void unless() {
        for (long value : new long[] {0, 1, P - 1}) {
            for (int p : new int[] {0, 12}) {
                int[] code = join(number(value), bytes(11, p, 17, p, 0, 26), number(7), bytes(11, 5, 0));
                runs(6, code).each(2, "clear", " 5", value == 0 ? 0 : 7).each(2, "party", " 1", value == 0 ? 2 : 3);
            }
        }
        int[] far = new int[520];
        far[0] = 17;
        far[2] = 2;
        far[3] = 4;
        far[516] = 15;
        runs(516, far).outputs(0, 0).each(2, "party", " 1", 2);
    }

    private static void farPlaces() {
        int[] far = new int[1900];
        far[0] = 18;
        far[1] = 7;
        far[2] = 100;
        far[7 * 256 + 100] = 15;
        runs(1897, far).outputs(0, 0).each(2, "party", " 1", 2);
        far[2] = 99;
        runs(1897, far).outputs(0).each(2, "party", " 1", 1).each(2, "party", " 0", 2);
        int[] last = new int[2000];
        last[0] = 18;
        last[1] = 7;
        last[2] = 207;
        runs(1998, last).each(2, "party", " 1", 1).each(2, "party", " 0", 2);
        Desk d = new Desk().ready(2, "d=1;".repeat(50) + "@1;?e[|f=7;]g=3;*g[f=f+1;g=g-1;]>f;@1[h=h+1;]@1;").runs();
        d.outputs(0, 10).outputs(1, 10).each(2, "clear", " 7", 2).each(2, "party", " 0", 2);
    }

    private static void clearPlaces() {
        for (int p = 0; p < 4; p++) {
            for (int place : new int[] {0, 7, 15}) {
                int[] code = join(number(place), number(50 + p), bytes(21, p), number(place), bytes(19, p, 11, 0, 0));
                runs(7, code).clears(0, 50 + p).clears(1, 50 + p);
            }
            runs(4, join(number(15), bytes(19, p, 11, 0, 0))).each(2, "party", " 0", 2).clears(0, 0);
            runs(4, join(number(16), bytes(19, p, 11, 0, 0))).each(2, "party", " 7", 5).each(2, "party", " 1", 0);
        }
    }

    private static void secretPlaces() {
        for (int p = 0; p < 4; p++) {
            for (int place : new int[] {0, 7, 15}) {
                int[] code = join(number(place), number(60 + p), bytes(22, p), number(place), bytes(20, p, 12, 0, 14, 0, 0, 0));
                runs(8, code).clears(0, 60 + p).clears(1, 60 + p).due("clear 0 " + (100 + 16 * p + place), 0);
            }
            runs(4, join(number(15), bytes(20, p, 12, 0, 0))).each(2, "party", " 0", 2);
            runs(4, join(number(16), bytes(20, p, 12, 0, 0))).each(2, "party", " 7", 5).each(2, "party", " 1", 0);
        }
    }

    private static void toPlaces() {
        for (int p = 0; p < 4; p++) {
            for (int place : new int[] {0, 7, 15}) {
                Desk d = runs(4, join(number(place), number(70 + p), bytes(21, p, 0)));
                for (int cell : new int[] {0, 7, 15, 16, 32, 48, 63}) {
                    d.each(2, "clear", " " + (100 + cell), cell == 16 * p + place ? 70 + p : 0);
                }
            }
            runs(4, join(number(16), number(3), bytes(21, p, 0))).each(2, "party", " 7", 5);
            runs(4, join(number(3), number(16), bytes(21, p, 0))).each(2, "party", " 7", 0);
        }
    }

    private static void toSecretPlaces() {
        for (int p = 0; p < 4; p++) {
            int[] secret = join(number(8), bytes(12, 0), number(15), bytes(3, 0, 22, p), number(15), bytes(20, p, 12, 1, 14, 0, 1, 0));
            runs(10, secret).clears(0, 8).clears(1, 8);
            runs(4, join(number(16), number(3), bytes(22, p, 0))).each(2, "party", " 7", 5);
            runs(4, join(number(3), number(16), bytes(22, p, 0))).each(2, "party", " 7", 0);
        }
    }

    private static void arrays() {
        for (int p = 0; p < 8; p++) {
            int[] set = join(number(0), number(9), bytes(21, 0), number(15), number(8), bytes(21, 0),
                number(0), number(4), bytes(21, 1), number(15), number(9), bytes(21, 1));
            for (int operation = 23; operation < 26; operation++) {
                long first = operation == 23 ? 13 : operation == 24 ? 5 : 36;
                long last = operation == 23 ? 17 : operation == 24 ? P - 1 : 72;
                int load = p < 4 ? 19 : 20;
                int[] ask = join(number(0), bytes(load, p & 3, 12, 0), number(15), bytes(load, p & 3, 12, 1), number(1),
                    bytes(load, p & 3, 12, 2, 14, 0, 0, 14, 1, 1, 14, 2, 2, 0));
                runs(26, join(set, bytes(operation, p, 0, 1), ask)).clears(0, first, last, 0).clears(1, first, last, 0);
            }
        }
    }

    private static void sumOfProducts() {
        for (int p = 0; p < 8; p++) {
            for (int q = 0; q < 8; q++) {
                int[] set = join(number(0), number(3), bytes(p < 4 ? 21 : 22, p & 3), number(15), number(4), bytes(p < 4 ? 21 : 22, p & 3),
                    number(0), number(5), bytes(q < 4 ? 21 : 22, q & 3), number(15), number(6), bytes(q < 4 ? 21 : 22, q & 3));
                long want = p == q ? 25 + 36 : 15 + 24;
                int triples = p > 3 && q > 3 ? 16 : 0;
                runs(16, join(set, bytes(26, p, q, 12, 3, 14, 0, 3, 0))).clears(0, want).clears(1, want).due("total 1", 200 - triples);
            }
        }
    }

    private static void bits() {
        Desk d = runs(5, 27, 0, 27, 12, 14, 0, 0, 14, 12, 12, 0);
        long first = P19BoundTest.next(7000003, 0) & 1;
        long second = P19BoundTest.next(7000003, 1) & 1;
        d.each(2, "clear", " 0", first).each(2, "clear", " 12", second).due("total 6", 198);
    }

    private static void kept() {
        int[] code = join(bytes(28, 0, 15), number(5), bytes(11, 0, 0), number(6), bytes(11, 1, 29, 0));
        runs(8, code).clears(0, 5, 6).each(2, "party", " 30", 0).each(2, "party", " 1", 4).each(2, "party", " 0", 2);
        new Desk().loads(2, 28, 0, 3, 0).due("begin", 1).due("step 0", 1).due("party 0 30", 1).due("party 0 0", 2);
    }

    private static void keptNoMore() {
        Desk d = new Desk().starts("@1;@1[@2;a=a*10+1;]@2[@3;a=a*10+2;]@3[a=a*10+3;]");
        d.due("step 0", 1).due("party 0 30", 1).due("step 0", 1).due("party 0 30", 2).due("step 0", 1).due("party 0 30", 3);
        d.all("step", 1, "0", "0", "0").due("party 0 30", 3).due("step 0", 1).due("party 0 30", 2).runs();
        d.clears(0, 321).clears(1, 321).each(2, "party", " 30", 0).each(2, "party", " 0", 2);
        new Desk().loads(4, 28, 0, 4, 0, 29, 0).due("begin", 1).all("step", 1, "0", "0").due("step 0", 2).due("party 0 30", 0);
        new Desk().loads(3, 28, 0, 3, 29, 0).due("begin", 1).all("step", 1, "0", "0").due("step 0", 4).due("party 0 7", 7);
    }

    private static void expressions() {
        Desk d = new Desk();
        d.compiles("a=258;", 1, 0, 0, 0, 0, 0, 0, 1, 2, 11, 0, 0);
        d.compiles("a=a+b-c*d;", 2, 0, 2, 1, 4, 2, 2, 2, 3, 6, 5, 11, 0, 0);
        d.compiles("a=a*b*c;", 2, 0, 2, 1, 6, 2, 2, 6, 11, 0, 0);
        d.compiles("n=a*n;n=n*a;n=n*o;n=a*b;", 2, 0, 3, 0, 6, 12, 0, 3, 0, 2, 0, 6, 12, 0,
            3, 0, 3, 1, 7, 12, 0, 2, 0, 2, 1, 6, 12, 0, 0);
        d.compiles("n=(a+n)*(o-b);", 2, 0, 3, 0, 4, 3, 1, 2, 1, 5, 7, 12, 0, 0);
        d.compiles("n=a*b*n*o;", 2, 0, 2, 1, 6, 3, 0, 6, 3, 1, 7, 12, 0, 0);
        d.compiles("a=-a^;", 2, 0, 9, 8, 11, 0, 0).compiles("n=-n^^;", 3, 0, 10, 10, 8, 12, 0, 0);
        d.compiles("n=(-n)^;n=(a)^;", 3, 0, 8, 10, 12, 0, 2, 0, 9, 12, 0, 0);
        d.compiles("a=--a--b;", 2, 0, 8, 8, 2, 1, 8, 5, 11, 0, 0).compiles("a=a*-b;", 2, 0, 2, 1, 8, 6, 11, 0, 0);
        d.compiles("a=A[b]^;n=E[A[a]]*F[b];", 2, 1, 19, 0, 9, 11, 0, 2, 0, 19, 0, 20, 0, 2, 1, 20, 1, 7, 12, 0, 0);
        d.compiles("a=b*(c+d)^;", 2, 1, 2, 2, 2, 3, 4, 9, 6, 11, 0, 0);
    }

    private static void statements() {
        Desk d = new Desk();
        d.compiles("n<0;z<1;", 13, 0, 0, 13, 12, 1, 0).compiles("a:z;m:n;", 14, 0, 12, 14, 12, 0, 0);
        d.compiles("n!;z!;", 27, 0, 27, 12, 0).compiles(">a;>m;>n;>z;", 15, 0, 15, 12, 16, 0, 16, 12, 0);
        d.compiles("a=m;n=m;n=z;", 2, 12, 11, 0, 2, 12, 12, 0, 3, 12, 12, 0, 0);
        d.compiles("A=B+C;D=A-A;E=F*G;H=A*E;", 23, 0, 1, 2, 24, 3, 0, 0, 25, 4, 5, 6, 25, 7, 0, 4, 0);
        d.compiles("n=A.B;z=H.E;", 26, 0, 1, 12, 0, 26, 7, 4, 12, 12, 0);
        d.compiles("A[a]=b;D[m]=m;E[a]=b;H[a]=n;", 2, 0, 2, 1, 21, 0, 2, 12, 2, 12, 21, 3,
            2, 0, 2, 1, 22, 0, 2, 0, 3, 0, 22, 3, 0);
    }

    private static void blocks() {
        Desk d = new Desk();
        d.compiles("?a[>a;|>b;>c;]", 17, 0, 0, 9, 15, 0, 18, 0, 13, 15, 1, 15, 2, 0);
        d.compiles("?m[|]", 17, 12, 0, 7, 18, 0, 7, 0).compiles("*b[>b;]>c;", 17, 1, 0, 9, 15, 1, 18, 0, 0, 15, 2, 0);
        d.compiles("*a[*b[]]", 17, 0, 0, 14, 17, 1, 0, 11, 18, 0, 4, 18, 0, 0, 0);
        d.compiles("?a[?b[|>a;]|*c[]]", 17, 0, 0, 16, 17, 1, 0, 11, 18, 0, 13, 15, 0, 18, 0, 23,
            17, 2, 0, 23, 18, 0, 16, 0);
        Desk far = new Desk();
        far.tape("a=1;".repeat(30) + "?a[>a;|>b;]*c[>c;]").due("compile", 330 + 7 + 4 + 9 + 1);
        int[] due = {17, 0, 1, 83, 15, 0, 18, 1, 85, 15, 1, 17, 2, 1, 94, 15, 2, 18, 1, 85, 0};
        for (int i = 0; i < due.length; i++) {
            far.due("code " + (330 + i), due[i]);
        }
    }

    private static void routines() {
        Desk d = new Desk();
        d.compiles("@3[>a;]@3;", 18, 0, 6, 15, 0, 29, 28, 0, 3, 0);
        d.compiles("@9;?a[@9;|]@9[@9;]", 28, 0, 16, 17, 0, 0, 13, 28, 0, 16, 18, 0, 13, 18, 0, 20, 28, 0, 16, 29, 0);
        d.compiles("@0[]@1[]@1;@0;", 18, 0, 4, 29, 18, 0, 8, 29, 28, 0, 7, 28, 0, 3, 0);
        Desk far = new Desk();
        far.tape("@1;" + "a=1;".repeat(30) + "@1[]@1;").due("compile", 3 + 330 + 4 + 3 + 1);
        far.due("code 0", 28).due("code 1", 1).due("code 2", 80).due("code 338", 1).due("code 339", 80);
    }

    /** The most code that a tape can become. */
    private static void longest() {
        Desk d = new Desk();
        d.tape("a=1" + "+1".repeat(198) + ";").due("compile", 1992).due("code 1991", 0).due("begin", 1).due("run 2000", 398);
        d.clears(0, 199).clears(1, 199);
    }
}
