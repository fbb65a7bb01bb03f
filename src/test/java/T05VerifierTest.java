import java.util.Arrays;

/** Terms: THE VERIFIER, and what it refuses. */
public final class T05VerifierTest {
    private static final int[] LENGTHS = {
        1, 9, 2, 2, 1, 1, 1, 1, 1, 1, 1, 2, 2, 3, 3, 2, 2, 4, 3, 2, 2, 2, 2, 4, 4, 4, 3, 2, 3, 1
    };

    public static void main(String[] args) {
        Edge.of("THE VERIFIER refuses CODE (at most 2000 bytes)", T05VerifierTest::longest);
        Edge.of("kind 1: the first OPERATION that is none", T05VerifierTest::noOperation);
        Edge.of("or whose bytes end too early", T05VerifierTest::endsTooEarly);
        Edge.of("or that has a VARIABLE, ARRAY or PARTY that there is not", T05VerifierTest::noVariable);
        Edge.of("or that has a VARIABLE, ARRAY or PARTY that there is not", T05VerifierTest::noArray);
        Edge.of("or that has a VARIABLE, ARRAY or PARTY that there is not", T05VerifierTest::noParty);
        Edge.of("a NUMBER beyond P - 1", T05VerifierTest::numbers);
        Edge.of("or no 0 as the last one", T05VerifierTest::noEnd);
        Edge.of("or bytes behind it that are none (a 0 may stand elsewhere, too)", T05VerifierTest::behindTheEnd);
        Edge.of("kind 1: the first OPERATION that is none", T05VerifierTest::firstOfKindOne);
        Edge.of("Else kind 2: the first one that goes on at a place where no OPERATION begins", T05VerifierTest::targets);
        Edge.of("Else kind 2: the first one that goes on at a place where no OPERATION begins", T05VerifierTest::formGoesAhead);
        Edge.of("Else kind 3, from the first one on", T05VerifierTest::targetsGoAhead);
        Edge.of("the PILE has too few", T05VerifierTest::tooFew);
        Edge.of("6: two secret ones; 7: a clear one", T05VerifierTest::sortsOfTwo);
        Edge.of("9, 11, 21: a secret one; 10: a clear one; a place that is secret", T05VerifierTest::sortsOfOne);
        Edge.of("9, 11, 21: a secret one; 10: a clear one; a place that is secret", T05VerifierTest::sortsOfPlaces);
        Edge.of("or would have more than 64", T05VerifierTest::moreThan64);
        Edge.of("23 to 25: p clear with q or r secret", T05VerifierTest::arraysThatLeak);
        Edge.of("or the PILE is not empty at 0, 17, 18, 28, 29", T05VerifierTest::notEmpty);
        Edge.of("or ahead of an OPERATION at which another one goes on", T05VerifierTest::notEmptyAtTarget);
        Edge.of("What can't be come to is looked at, too; the PILE is empty behind 18, 28, 29 and 0", T05VerifierTest::notComeTo);
        Edge.of("What compile() makes is never refused", T05VerifierTest::compiledCode);
        Edge.end();
    }

    private static int[] with(int[] first, int... then) {
        int[] all = Arrays.copyOf(first, first.length + then.length);
        System.arraycopy(then, 0, all, first.length, then.length);
        return all;
    }

    static int[] repeat(int times, int... part) {
        int[] all = {};
        for (int i = 0; i < times; i++) {
            all = with(all, part);
        }
        return all;
    }

    private static void longest() {
        Desk d = new Desk();
        d.bytes(with(repeat(999, 15, 0), 0, 0)).due("put 0 1", 0).due("load", 1001).due("total 3", 2000);
        Desk wrong = new Desk();
        wrong.bytes(with(repeat(999, 15, 0), 0, 4)).due("load", Desk.ARGUMENT).due("fault 0", 1).due("fault 1", 2000);
        Desk last = new Desk();
        last.bytes(with(repeat(997, 15, 0), 18, 7, 207, 0, 0, 0)).due("load", 1001).due("code 1999", 0);
        Desk behind = new Desk();
        behind.bytes(with(repeat(997, 15, 0), 18, 7, 208, 0, 0, 0)).due("load", Desk.ARGUMENT).due("fault 0", 2).due("fault 1", 1994);
    }

    private static void noOperation() {
        Desk d = new Desk();
        d.isNotLoaded(1, 0, 30, 0).isNotLoaded(1, 0, 255, 0).isNotLoaded(1, 0, 128, 0).isNotLoaded(1, 1, 0, 255);
        d.isNotLoaded(1, 2, 0, 0, 77, 0).isNotLoaded(1, 2, 15, 0, 31, 0).loads(2, 29, 0);
    }

    private static void endsTooEarly() {
        for (int operation = 1; operation < 30; operation++) {
            Desk d = new Desk();
            for (int length = 1; length < LENGTHS[operation]; length++) {
                int[] cut = new int[length];
                cut[0] = operation;
                d.isNotLoaded(1, 0, cut).isNotLoaded(1, 1, with(new int[] {0}, cut)).isNotLoaded(1, 2, with(new int[] {15, 0}, cut));
            }
        }
    }

    private static void noVariable() {
        Desk d = new Desk();
        for (int operation : new int[] {2, 3, 11, 12, 15, 16, 27}) {
            d.isNotLoaded(1, 0, operation, 13, 0).isNotLoaded(1, 0, operation, 255, 0);
        }
        d.loads(2, 15, 12, 0).loads(2, 16, 12, 0).loads(2, 27, 12, 0).loads(3, 2, 12, 11, 12, 0).loads(3, 3, 12, 12, 12, 0);
        d.isNotLoaded(1, 0, 13, 13, 0, 0).loads(2, 13, 12, 0, 0);
        d.isNotLoaded(1, 0, 14, 13, 0, 0).isNotLoaded(1, 0, 14, 0, 13, 0).loads(2, 14, 12, 12, 0);
        d.isNotLoaded(1, 0, 17, 13, 0, 0, 0).isNotLoaded(1, 0, 17, 255, 0, 0, 0).loads(2, 17, 12, 0, 0, 0);
    }

    private static void noArray() {
        Desk d = new Desk();
        for (int operation = 19; operation < 23; operation++) {
            d.isNotLoaded(1, 4, 2, 0, 2, 0, operation, 4, 0).isNotLoaded(1, 4, 2, 0, 2, 0, operation, 255, 0);
        }
        d.loads(4, 2, 0, 19, 3, 11, 0, 0).loads(4, 2, 0, 20, 3, 12, 0, 0).loads(4, 2, 0, 2, 0, 21, 3, 0).loads(4, 2, 0, 2, 0, 22, 3, 0);
        for (int operation = 23; operation < 26; operation++) {
            d.isNotLoaded(1, 0, operation, 8, 0, 0, 0).isNotLoaded(1, 0, operation, 0, 8, 0, 0);
            d.isNotLoaded(1, 0, operation, 0, 0, 8, 0).loads(2, operation, 7, 7, 7, 0);
        }
        d.isNotLoaded(1, 0, 26, 8, 0, 12, 0, 0).isNotLoaded(1, 0, 26, 0, 8, 12, 0, 0).loads(3, 26, 7, 7, 12, 0, 0);
    }

    private static void noParty() {
        for (int parties = 2; parties <= 4; parties++) {
            Desk d = new Desk();
            d.due("hall " + parties + " 0 1", 1).loads(2, 13, 0, parties - 1, 0).isNotLoaded(1, 0, 13, 0, parties, 0);
            d.isNotLoaded(1, 2, 15, 0, 13, 0, 255, 0);
        }
    }

    private static void numbers() {
        Desk d = new Desk();
        d.loads(3, 1, 0, 0, 0, 0, 0, 0, 0, 0, 11, 0, 0).loads(3, 1, 31, 255, 255, 255, 255, 255, 255, 254, 11, 0, 0);
        d.isNotLoaded(1, 0, 1, 31, 255, 255, 255, 255, 255, 255, 255, 11, 0, 0);
        d.isNotLoaded(1, 0, 1, 32, 0, 0, 0, 0, 0, 0, 0, 11, 0, 0).isNotLoaded(1, 0, 1, 127, 255, 255, 255, 255, 255, 255, 255, 11, 0, 0);
        d.isNotLoaded(1, 0, 1, 128, 0, 0, 0, 0, 0, 0, 0, 11, 0, 0).isNotLoaded(1, 0, 1, 255, 255, 255, 255, 255, 255, 255, 255, 11, 0, 0);
        d.isNotLoaded(1, 2, 15, 0, 1, 31, 255, 255, 255, 255, 255, 255, 255, 11, 0, 0);
    }

    private static void noEnd() {
        Desk d = new Desk();
        d.isNotLoaded(1, 0).loads(1, 0);
        for (int operation = 1; operation < 30; operation++) {
            int[] whole = new int[LENGTHS[operation]];
            whole[0] = operation;
            d.isNotLoaded(1, whole.length, whole).isNotLoaded(1, whole.length + 1, with(new int[] {0}, whole));
        }
    }

    private static void behindTheEnd() {
        Desk d = new Desk();
        d.loads(3, 0, 0, 0).loads(5, 15, 0, 0, 15, 0, 0, 0).isNotLoaded(1, 1, 0, 30).isNotLoaded(1, 1, 0, 15).isNotLoaded(1, 3, 0, 15, 0);
        d.isNotLoaded(1, 3, 15, 0, 0, 200, 0).isNotLoaded(1, 2, 0, 0, 1, 0, 0, 0, 0);
    }

    private static void firstOfKindOne() {
        Desk d = new Desk();
        d.isNotLoaded(1, 2, 15, 12, 15, 13, 15, 14, 99).isNotLoaded(1, 0, 26, 8, 8, 31).isNotLoaded(1, 3, 0, 15, 0, 27, 13, 30, 0);
    }

    private static void targets() {
        Desk d = new Desk();
        d.loads(2, 18, 0, 0, 0).loads(2, 28, 0, 3, 0).loads(2, 17, 0, 0, 4, 0).loads(2, 18, 0, 3, 0);
        d.isNotLoaded(2, 0, 18, 0, 4, 0).isNotLoaded(2, 0, 28, 0, 4, 0).isNotLoaded(2, 0, 17, 0, 0, 5, 0);
        d.isNotLoaded(2, 0, 18, 0, 1, 0).isNotLoaded(2, 0, 28, 0, 2, 0).isNotLoaded(2, 0, 17, 0, 0, 3, 0);
        d.isNotLoaded(2, 0, 18, 255, 255, 0).isNotLoaded(2, 0, 28, 255, 255, 0).isNotLoaded(2, 0, 17, 0, 255, 255, 0);
        d.isNotLoaded(2, 3, 18, 0, 3, 18, 1, 0, 4, 0).isNotLoaded(2, 0, 18, 0, 1, 28, 0, 1, 0).isNotLoaded(2, 2, 15, 0, 18, 1, 2, 0);
        d.isNotLoaded(2, 0, 18, 0, 7, 1, 0, 0, 0, 0, 0, 0, 0, 0, 11, 0, 0);
        int[] far = new int[300];
        far[0] = 18;
        far[1] = 1;
        far[2] = 43;
        d.loads(298, far);
        far[2] = 44;
        d.isNotLoaded(2, 0, far);
        Desk longOne = new Desk();
        longOne.bytes(new int[2000]).due("load", 2000).isNotLoaded(2, 0, 18, 7, 207, 0).isNotLoaded(2, 0, 18, 0, 4, 0);
    }

    private static void formGoesAhead() {
        Desk d = new Desk();
        d.isNotLoaded(1, 4, 18, 0, 99, 4, 15, 13).isNotLoaded(1, 4, 18, 0, 99, 4).isNotLoaded(1, 5, 4, 18, 9, 9, 0, 30);
    }

    private static void targetsGoAhead() {
        Desk d = new Desk();
        d.isNotLoaded(2, 1, 4, 18, 0, 2, 0).isNotLoaded(2, 4, 23, 0, 4, 4, 28, 0, 1, 0).isNotLoaded(3, 0, 4, 4, 0).isNotLoaded(3, 1, 0, 4, 4, 0);
    }

    private static void tooFew() {
        Desk d = new Desk();
        for (int operation : new int[] {4, 5, 6, 7}) {
            d.isNotLoaded(3, 0, operation, 0).isNotLoaded(3, 2, 3, 0, operation, 0).isNotLoaded(3, 2, 2, 0, operation, 0);
        }
        for (int operation : new int[] {8, 9, 10}) {
            d.isNotLoaded(3, 0, operation, 0);
        }
        for (int operation : new int[] {11, 12, 19, 20, 21, 22}) {
            d.isNotLoaded(3, 0, operation, 0, 0);
        }
        d.isNotLoaded(3, 2, 2, 0, 21, 0, 0).isNotLoaded(3, 2, 2, 0, 22, 0, 0);
        d.isNotLoaded(3, 4, 2, 0, 11, 0, 8, 0).isNotLoaded(3, 5, 2, 0, 2, 0, 4, 4, 0).isNotLoaded(3, 4, 2, 0, 12, 0, 12, 0, 0);
        d.isNotLoaded(3, 6, 2, 0, 2, 0, 21, 0, 11, 0, 0).isNotLoaded(3, 6, 2, 0, 2, 0, 22, 0, 8, 0);
    }

    private static void sortsOfTwo() {
        for (int[] pair : new int[][] {{2, 2}, {2, 3}, {3, 2}, {3, 3}}) {
            Desk d = new Desk();
            int[] both = {pair[0], 0, pair[1], 0};
            boolean clear = pair[0] == 2 && pair[1] == 2;
            boolean secret = pair[0] == 3 && pair[1] == 3;
            for (int operation : new int[] {4, 5, 6, 7}) {
                int[] code = with(with(both, operation), clear ? 11 : 12, 0, 0);
                if (operation == 6 && secret || operation == 7 && !secret) {
                    d.isNotLoaded(3, 4, code);
                } else {
                    d.loads(5, code);
                }
                if (!clear && (operation != 6 || !secret) && (operation != 7 || secret)) {
                    d.isNotLoaded(3, 5, with(with(both, operation), 11, 0, 0));
                }
            }
        }
    }

    private static void sortsOfOne() {
        Desk d = new Desk();
        d.loads(4, 2, 0, 8, 11, 0, 0).isNotLoaded(3, 3, 3, 0, 8, 11, 0, 0).loads(4, 3, 0, 8, 12, 0, 0);
        d.loads(4, 2, 0, 9, 11, 0, 0).isNotLoaded(3, 2, 3, 0, 9, 12, 0, 0);
        d.loads(4, 3, 0, 10, 12, 0, 0).isNotLoaded(3, 2, 2, 0, 10, 12, 0, 0).isNotLoaded(3, 3, 3, 0, 10, 11, 0, 0);
        d.isNotLoaded(3, 2, 3, 0, 11, 0, 0).loads(3, 2, 0, 11, 0, 0).loads(3, 2, 0, 12, 0, 0).loads(3, 3, 0, 12, 0, 0);
        d.isNotLoaded(3, 9, 1, 0, 0, 0, 0, 0, 0, 0, 1, 10, 12, 0, 0).loads(4, 1, 0, 0, 0, 0, 0, 0, 0, 1, 9, 12, 0, 0);
        d.isNotLoaded(3, 3, 26, 0, 1, 11, 0, 0).isNotLoaded(3, 3, 26, 0, 1, 9, 12, 0, 0).loads(4, 26, 0, 1, 10, 12, 0, 0);
    }

    private static void sortsOfPlaces() {
        Desk d = new Desk();
        d.loads(4, 2, 0, 19, 0, 11, 0, 0).isNotLoaded(3, 2, 3, 0, 19, 0, 12, 0, 0);
        d.loads(4, 2, 0, 20, 0, 12, 0, 0).isNotLoaded(3, 2, 3, 0, 20, 0, 12, 0, 0).isNotLoaded(3, 4, 2, 0, 20, 0, 11, 0, 0);
        d.isNotLoaded(3, 4, 2, 0, 20, 0, 19, 0, 12, 0, 0).loads(5, 2, 0, 19, 0, 20, 0, 12, 0, 0);
        d.loads(4, 2, 0, 2, 0, 21, 0, 0).isNotLoaded(3, 4, 2, 0, 3, 0, 21, 0, 0);
        d.isNotLoaded(3, 4, 3, 0, 2, 0, 21, 0, 0).isNotLoaded(3, 4, 3, 0, 3, 0, 21, 0, 0);
        d.loads(4, 2, 0, 2, 0, 22, 0, 0).loads(4, 2, 0, 3, 0, 22, 0, 0);
        d.isNotLoaded(3, 4, 3, 0, 2, 0, 22, 0, 0).isNotLoaded(3, 4, 3, 0, 3, 0, 22, 0, 0);
    }

    private static void moreThan64() {
        int[] full = repeat(32, 2, 0, 3, 0);
        int[] drops = repeat(64, 12, 0);
        Desk d = new Desk();
        d.loads(129, with(with(full, drops), 0));
        for (int[] more : new int[][] {{2, 0}, {3, 0}, {26, 0, 0}, {1, 0, 0, 0, 0, 0, 0, 0, 0}}) {
            d.isNotLoaded(3, 128, with(with(with(full, more), drops), 12, 0, 0));
        }
        d.loads(130, with(with(with(full, 8), drops), 0));
        int[] clear = repeat(64, 2, 0);
        Desk places = new Desk();
        places.loads(130, with(with(with(clear, 20, 0), drops), 0)).loads(130, with(with(with(clear, 19, 0), drops), 0));
        places.loads(131, with(with(with(clear, 4, 26, 0, 0), drops), 0));
        places.isNotLoaded(3, 132, with(with(with(clear, 4, 26, 0, 0, 3, 0), drops), 12, 0, 0));
    }

    private static void arraysThatLeak() {
        Desk d = new Desk();
        for (int operation = 23; operation < 26; operation++) {
            d.isNotLoaded(3, 0, operation, 3, 4, 0, 0).isNotLoaded(3, 0, operation, 3, 0, 4, 0).isNotLoaded(3, 0, operation, 0, 7, 7, 0);
            d.loads(2, operation, 0, 3, 3, 0).loads(2, operation, 3, 0, 3, 0).loads(2, operation, 4, 3, 0, 0).loads(2, operation, 4, 0, 5, 0).loads(2, operation, 4, 4, 4, 0);
        }
    }

    private static void notEmpty() {
        Desk d = new Desk();
        d.isNotLoaded(3, 2, 2, 0, 0).isNotLoaded(3, 2, 3, 0, 0).isNotLoaded(3, 2, 2, 0, 17, 0, 0, 0, 11, 0, 0);
        d.isNotLoaded(3, 2, 2, 0, 18, 0, 0, 11, 0, 0).isNotLoaded(3, 2, 2, 0, 28, 0, 0, 11, 0, 0);
        d.isNotLoaded(3, 2, 2, 0, 29, 11, 0, 0).isNotLoaded(3, 2, 2, 0, 0, 11, 0, 0);
        d.loads(6, 2, 0, 13, 0, 0, 27, 0, 16, 0, 12, 0, 0).loads(8, 2, 0, 14, 0, 0, 15, 0, 23, 0, 0, 0, 26, 0, 0, 4, 12, 0, 0);
    }

    private static void notEmptyAtTarget() {
        Desk d = new Desk();
        d.isNotLoaded(3, 5, 18, 0, 5, 2, 0, 11, 0, 0).isNotLoaded(3, 5, 28, 0, 5, 2, 0, 11, 0, 0);
        d.isNotLoaded(3, 6, 17, 0, 0, 6, 2, 0, 11, 0, 0).isNotLoaded(3, 2, 2, 0, 11, 0, 18, 0, 2, 0);
        d.isNotLoaded(3, 4, 2, 0, 2, 0, 4, 11, 0, 28, 0, 4, 0).isNotLoaded(3, 5, 18, 0, 5, 2, 0, 2, 0, 4, 11, 0, 0);
        d.loads(5, 18, 0, 5, 15, 0, 2, 0, 11, 0, 0).loads(4, 2, 0, 11, 0, 18, 0, 0, 0).loads(4, 18, 0, 3, 2, 0, 11, 0, 0);
    }

    private static void notComeTo() {
        Desk d = new Desk();
        d.isNotLoaded(3, 3, 18, 0, 4, 4, 0).isNotLoaded(3, 1, 0, 8, 0).isNotLoaded(3, 1, 29, 8, 0).isNotLoaded(3, 3, 28, 0, 0, 8, 0);
        d.isNotLoaded(2, 1, 0, 18, 9, 9, 0).isNotLoaded(1, 1, 0, 15, 13, 0).isNotLoaded(3, 1, 0, 25, 0, 4, 4, 0);
        d.loads(5, 18, 0, 3, 2, 0, 11, 0, 0, 0).loads(4, 29, 2, 0, 11, 0, 0).loads(4, 0, 2, 0, 11, 0, 0).loads(4, 28, 0, 0, 2, 0, 11, 0, 0);
    }

    /** What a tape becomes can be put together again and loaded. */
    private static void compiledCode() {
        String deep = "a+b*(".repeat(20) + "c+d*e" + ")".repeat(20);
        String secretDeep = "n+o*(".repeat(20) + "p+q*r" + ")".repeat(20);
        for (String text : new String[] {"", "@1[]", "?a[|]*a[]", "a=" + deep + ";", "A[" + deep.substring(5, deep.length() - 1) + "]=1;",
            "E[a]=" + secretDeep + ";", "n=" + "(a+n*".repeat(19) + "E[1]" + ")".repeat(19) + ";", "a=" + "A[b+".repeat(20) + "1" + "]".repeat(20) + ";",
            "@1;@2;@1[?a[@2;|*b[@1;]]]@2[n<0;n!;a:n;>a;>n;E=F*G;n=E.A;A[a]=-a^;]", "*a[".repeat(20) + "]".repeat(20),
            "n=n^*-a^^+n*o-a*b;E[A[a]]=n;B=C-D;H=A+E;m:z;", "a=1" + "+1".repeat(198) + ";"}) {
            Desk d = new Desk();
            int length = Integer.parseInt(d.tape(text).ask("compile"));
            Desk.same("faults in " + text, d.ask("fault 0"), 0);
            int[] code = new int[length];
            for (int i = 0; i < length && i < 430; i++) {
                code[i] = Integer.parseInt(d.ask("code " + i));
            }
            if (length < 430) {
                Desk again = new Desk();
                again.bytes(code);
                again.ask("load");
                again.due("fault 0", 0).due("fault 1", 0).due("total 3", length);
            }
        }
    }
}
