/** Promise 17: what was put out. */
public final class P17OutputTest {
    public static void main(String[] args) {
        Edge.of("The k-th number that a PARTY has put out in this RUN", P17OutputTest::inOrder);
        Edge.of("The k-th number that a PARTY has put out in this RUN", P17OutputTest::ofEachParty);
        Edge.of("The k-th number that a PARTY has put out in this RUN", P17OutputTest::many);
        Edge.of("The k-th number that a PARTY has put out in this RUN", P17OutputTest::nearlyAsManyAsSteps);
        Edge.of("NoSuchElementException: there is none such", P17OutputTest::noneSuch);
        Edge.of("NoSuchElementException: there is none such", P17OutputTest::otherRuns);
        Edge.end();
    }

    private static void inOrder() {
        Desk d = new Desk().ready(3, "a=1;>a;a=2;>a;n<0;>n;>a;").due("give 0 -5", 1).runs();
        for (int i = 0; i < 3; i++) {
            d.outputs(i, 1, 2, Desk.P - 5, 2);
        }
    }

    private static void ofEachParty() {
        Desk d = new Desk().starts("a=1;>a;a=2;>a;").all("step", 1, "0", "0", "1").due("output 0 0", 1).due("output 1 0", Desk.ELEMENT);
        d.due("step 0", 1).due("output 0 1", Desk.ELEMENT).due("step 0", 1).due("output 0 1", 2).due("step 1", 1).due("output 1 0", 1);
    }

    private static void many() {
        Desk d = new Desk().starts("a=1;*a[>a;a=a+1;]");
        for (int i = 0; i < 7; i++) {
            d.due("run 2000", 4000);
        }
        d.due("run 2000", 2000).due("party 0 4", 3000).due("party 1 4", 3000);
        for (int k : new int[] {0, 1, 15, 16, 17, 31, 32, 33, 1000, 2047, 2048, 2998, 2999}) {
            d.due("output 0 " + k, k + 1).due("output 1 " + k, k + 1);
        }
        d.due("output 0 3000", Desk.ELEMENT).due("begin", 1).due("output 0 0", Desk.ELEMENT);
    }

    /** One party lacks a bit, so that the other one has nearly all 30000 steps for putting out. */
    private static void nearlyAsManyAsSteps() {
        Desk d = new Desk().bytes(27, 0, 1, 0, 0, 0, 0, 0, 0, 0, 7, 11, 0).bytes(T05VerifierTest.repeat(991, 15, 0)).bytes(18, 0, 13, 0);
        d.due("load", 996).due("begin", 1).due("step 1", 4).due("deal -3 1", 1);
        for (int i = 0; i < 15; i++) {
            d.due("run 2000", 2000);
        }
        d.due("run 2000", 0).due("party 0 1", 30000).due("party 0 4", 29968).due("party 1 4", 0);
        d.all("output", 7, "0 0", "0 8191", "0 8192", "0 16383", "0 16384", "0 29967").all("output", Desk.ELEMENT, "0 29968", "0 32768", "1 0");
    }

    private static void noneSuch() {
        Desk d = new Desk();
        d.due("output 0 0", Desk.ELEMENT).starts("a=1;>a;a=2;>a;").due("output 0 0", Desk.ELEMENT).runs();
        d.all("output", Desk.ELEMENT, "0 2", "0 3", "0 -1", "0 2147483647", "0 -2147483648", "2 0", "3 0", "-1 0", "2147483647 0", "-2147483648 0");
        d.due("output 1 1", 2).due("output 1 2", Desk.ELEMENT);
        new Desk().starts("").due("output 0 0", Desk.ELEMENT);
    }

    private static void otherRuns() {
        Desk d = new Desk().starts(">a;").runs().due("output 0 0", 0).due("begin", 1).due("output 0 0", Desk.ELEMENT).runs().due("output 0 0", 0);
        d.due("compile", 1).due("output 0 0", Desk.ELEMENT).starts(">a;").runs().loads(1, 0).due("output 0 0", Desk.ELEMENT);
        d.starts(">a;").runs().due("output 0 0", 0).due("hall 2 0 1", 1).due("output 0 0", Desk.ELEMENT);
        Desk failed = new Desk().starts(">a;b:n;>b;").due("tamper 0 0 0 1", 1).runs().outputs(0, 0).outputs(1, 0);
        failed.due("output 0 1", Desk.ELEMENT);
    }
}
