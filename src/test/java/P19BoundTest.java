import java.nio.ByteBuffer;
import java.security.MessageDigest;
import java.security.NoSuchAlgorithmException;

/** Promise 19: what bound a coin. The digest of the document is the SHA-256 of sixteen bytes. */
public final class P19BoundTest {
    public static void main(String[] args) {
        Edge.of("Byte k (0 .. 31: the ints in order, of each the highest byte first)", P19BoundTest::allBytes);
        Edge.of("of what bound PARTY from to its coin in the latest CHECK whose first RECEIVE a PARTY has done in this RUN", P19BoundTest::latestCheck);
        Edge.of("of what bound PARTY from to its coin in the latest CHECK whose first RECEIVE a PARTY has done in this RUN", P19BoundTest::whoHasItWhen);
        Edge.of("of what bound PARTY from to its coin in the latest CHECK whose first RECEIVE a PARTY has done in this RUN", P19BoundTest::afterFailing);
        Edge.of("NoSuchElementException: there is none such, no such PARTY, or no RUN", P19BoundTest::noneSuch);
        Edge.of("NoSuchElementException: there is none such, no such PARTY, or no RUN", P19BoundTest::noRun);
        Edge.end();
    }

    static byte[] digest(long x, long y) {
        try {
            return MessageDigest.getInstance("SHA-256").digest(ByteBuffer.allocate(16).putLong(x).putLong(y).array());
        } catch (NoSuchAlgorithmException e) {
            throw new IllegalStateException(e);
        }
    }

    static long next(long seed, long i) {
        return (ByteBuffer.wrap(digest(seed, i)).getLong() >>> 3) % Desk.P;
    }

    private static void same(Desk d, int party, int from, long seed, int at) {
        long own = seed + 1000003L * (from + 1);
        byte[] bond = digest(next(own, at), next(own, at + 1));
        for (int k = 0; k < 32; k++) {
            d.due("bound " + party + " " + from + " " + k, bond[k] & 255);
        }
    }

    private static void allBytes() {
        Desk d = new Desk().due("hall 3 -5 1", 1).starts("a:n;>a;").due("run 4", 12);
        for (int party = 0; party < 3; party++) {
            for (int from = 0; from < 3; from++) {
                same(d, party, from, -5, 0);
            }
        }
    }

    private static void latestCheck() {
        Desk d = new Desk().due("hall 3 6 1", 1).starts("a:n;>a;a:n;>n;").due("run 11", 33);
        same(d, 2, 1, 6, 0);
        d.due("run 4", 12).due("party 2 8", 1);
        same(d, 2, 1, 6, 3);
        d.runs();
        same(d, 0, 1, 6, 6);
        d.due("party 0 8", 3).due("begin", 1).due("run 4", 12);
        same(d, 1, 0, 6, 9);
    }

    /** With its own first receive, not with its send nor with another party's receive. */
    private static void whoHasItWhen() {
        Desk d = new Desk().starts("a:n;>a;a:n;>a;").due("bound 0 0 0", Desk.ELEMENT);
        d.due("run 3", 6).due("bound 0 0 0", Desk.ELEMENT).due("bound 1 0 0", Desk.ELEMENT);
        d.due("step 0", 1).due("bound 1 0 0", Desk.ELEMENT).due("bound 1 1 0", Desk.ELEMENT);
        same(d, 0, 1, 0, 0);
        d.due("step 1", 1);
        same(d, 1, 0, 0, 0);
        d.due("run 7", 14).due("party 0 4", 1).due("run 3", 6);
        same(d, 0, 1, 0, 0);
        d.due("step 0", 1).due("party 0 1", 15);
        same(d, 0, 1, 0, 3);
        same(d, 1, 0, 0, 0);
    }

    private static void afterFailing() {
        Desk d = new Desk().starts("a:n;>a;").due("tamper 0 0 0 1", 1).runs().each(2, "party", " 0", 3);
        same(d, 0, 1, 0, 0);
        same(d, 1, 0, 0, 0);
        same(d, 1, 1, 0, 0);
    }

    private static void noneSuch() {
        Desk d = new Desk().starts(">a;").runs().due("bound 0 0 0", Desk.ELEMENT).starts(">n;").runs();
        d.all("bound", Desk.ELEMENT, "0 0 -1", "0 0 32", "0 0 33", "0 0 2147483647", "0 0 -2147483648", "2 0 0", "0 2 0", "3 0 0", "0 3 0",
            "-1 0 0", "0 -1 0", "2147483647 0 0", "0 2147483647 0", "-2147483648 0 0", "0 -2147483648 0");
        same(d, 0, 0, 0, 0);
        d.due("begin", 1).due("bound 0 0 0", Desk.ELEMENT).due("bound 1 0 31", Desk.ELEMENT);
    }

    private static void noRun() {
        Desk d = new Desk().due("bound 0 0 0", Desk.ELEMENT).tape(">n;").due("compile", 3).due("bound 0 0 0", Desk.ELEMENT).due("begin", 1).runs();
        same(d, 0, 1, 0, 0);
        d.due("compile", 1).due("bound 0 1 0", Desk.ELEMENT).due("begin", 1).due("bound 0 1 0", Desk.ELEMENT).starts(">n;").runs();
        same(d, 0, 1, 0, 3);
        d.due("hall 2 0 1", 1).due("bound 0 1 0", Desk.ELEMENT).starts(">n;").due("bound 0 1 0", Desk.ELEMENT);
    }
}
