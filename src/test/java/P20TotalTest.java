/** Promise 20: what is asked of all. */
public final class P20TotalTest {
    public static void main(String[] args) {
        Edge.of("What 0: PARTIES, 1: TRIPLES that are left (of the PARTY that has most), 2: STEPS in all", P20TotalTest::left);
        Edge.of("What 0: PARTIES, 1: TRIPLES that are left (of the PARTY that has most), 2: STEPS in all", P20TotalTest::whoHasMost);
        Edge.of("What 0: PARTIES, 1: TRIPLES that are left (of the PARTY that has most), 2: STEPS in all", P20TotalTest::stepsInAll);
        Edge.of("3: bytes of the CODE (0 without one)", P20TotalTest::bytes);
        Edge.of("4: SQUARES that are left, 5: the BOUND, 6: BITS that are left (likewise)", P20TotalTest::squaresAndBits);
        Edge.of("NONE for another what", P20TotalTest::anotherWhat);
        Edge.end();
    }

    private static void left() {
        Desk d = new Desk();
        d.due("total 0", 2).due("hall 4 0 3", 1).due("total 0", 4).due("total 5", 3).due("total 1", 0);
        d.due("deal -1 20", 20).due("deal -2 7", 7).due("deal -3 9", 9).due("total 1", 20).due("total 4", 7).due("total 6", 9);
        d.tape("n!;n=n*n;n=n^;E=E*E;").due("compile", 19).due("total 3", 19).due("begin", 1).due("total 2", 0);
        d.due("step 0", 1).due("total 2", 1).due("total 6", 9).due("run 1", 4).due("total 6", 8).due("total 1", 20);
        d.due("run 3", 11).due("total 1", 19).due("total 2", 16).due("total 4", 7).runs();
        d.due("total 1", 3).due("total 4", 6).due("total 2", 36).due("begin", 1).due("total 1", 3).due("total 2", 36);
        d.due("hall 2 0 1", 1).due("total 2", 36).due("total 3", 0).due("total 0", 2).due("total 5", 1).due("total 1", 0);
    }

    /** Whichever party it is that has most. */
    private static void whoHasMost() {
        for (int behind = 0; behind < 3; behind++) {
            Desk d = new Desk();
            d.due("hall 3 0 1", 1).due("deal -1 5", 5).due("deal -2 5", 5).due("deal -3 5", 5).starts("n!;n=n*n;");
            for (int i = 0; i < 6; i++) {
                if (i % 3 != behind) {
                    d.due("step " + i % 3, 1);
                }
            }
            d.due("total 1", 5).due("total 6", 5).due("deal -1 1", 6).due("deal -3 0", 5).due("step " + behind, 1);
            d.due("total 6", 4).due("total 1", 6).due("step " + behind, 1).due("total 1", 5);
        }
    }

    private static void stepsInAll() {
        Desk d = new Desk().due("total 2", 0).starts("a=1;").due("total 2", 0).due("step 0", 1).due("total 2", 1).due("step 0", 2).due("total 2", 1);
        d.due("begin", 1).due("total 2", 1).due("run 9", 2).due("total 2", 3).due("compile", 1).due("total 2", 3).due("hall 3 0 1", 1).due("total 2", 3);
        d.starts("a:n;").due("step 0", 1).due("step 0", 0).due("total 2", 4).starts("n!;").due("step 0", 4).due("total 2", 4);
    }

    private static void bytes() {
        Desk d = new Desk().due("total 3", 0).due("compile", 1).due("total 3", 1).bytes(new int[2000]).due("load", 2000).due("total 3", 2000);
        d.isRefused("n=", 1, 2).due("total 3", 2000).isNotLoaded(1, 0).due("total 3", 2000).due("hall 2 0 1", 1).due("total 3", 0);
    }

    private static void squaresAndBits() {
        Desk d = new Desk().due("total 4", 0).due("total 6", 0).due("hall 3 0 4", 1).due("total 5", 4);
        d.due("deal -2 2", 2).due("deal -3 2", 2).starts("n!;n=n^;").all("step", 1, "1", "1", "2", "2").due("total 4", 2).due("total 6", 2);
        d.due("step 0", 1).due("total 6", 1).due("total 4", 2).due("step 0", 1).due("total 4", 1).due("begin", 1).due("total 4", 1).due("total 6", 1);
        d.runs().due("total 4", 0).due("total 6", 0).due("hall 2 0 2", 1).due("total 4", 0).due("total 6", 0).due("total 5", 2);
    }

    private static void anotherWhat() {
        Desk d = new Desk();
        String[] wrong = {"-1", "7", "8", "10", "2147483647", "-2147483648"};
        d.all("total", -1, wrong).starts("a=1;").all("total", -1, wrong);
    }
}
