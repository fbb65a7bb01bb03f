import java.nio.ByteBuffer;
import java.security.MessageDigest;
import java.security.NoSuchAlgorithmException;

/** Promise 19: what bound a coin. The digest of the document is the SHA-256 of sixteen bytes. */
public final class P19BoundTest {
    public static void main(String[] args) {
        whoHasItWhen();
        wrongOnes();
        for (long seed : new long[] {0, 1, -1, 123456789, Long.MIN_VALUE, Long.MAX_VALUE, Desk.P, Desk.P + 5}) {
            bytes(seed);
        }
        bits(5);
        bits(-9);
        bits(Long.MAX_VALUE);
        Desk.end();
    }

    static byte[] digest(long x, long y) {
        try {
            return MessageDigest.getInstance("SHA-256").digest(ByteBuffer.allocate(16).putLong(x).putLong(y).array());
        } catch (NoSuchAlgorithmException e) {
            throw new IllegalStateException(e);
        }
    }

    static long next(long seed, long i) {
        return (ByteBuffer.wrap(digest(seed, i)).getLong() >>> 3) % Desk.P;
    }

    private static void same(Desk d, int party, int from, long seed, int at) {
        long own = seed + 1000003L * (from + 1);
        byte[] bond = digest(next(own, at), next(own, at + 1));
        for (int k = 0; k < 32; k++) {
            d.due("bound " + party + " " + from + " " + k, bond[k] & 255);
        }
    }

    /** Three numbers of a party's own generator go with each check, two of them till the third send. */
    private static void bytes(long seed) {
        Desk d = new Desk();
        d.due("hall 3 " + seed + " 1", 1).tape("a:n;>a;a:n;>a;").due("compile", 11).due("begin", 1);
        d.due("run 4", 12);
        for (int party = 0; party < 3; party++) {
            for (int from = 0; from < 3; from++) {
                same(d, party, from, seed, 0);
            }
        }
        d.due("run 11", 33);
        same(d, 2, 1, seed, 3);
        d.due("begin", 1).due("run 4", 12);
        same(d, 0, 2, seed, 5);
        d.due("begin", 1).due("run 7", 21);
        same(d, 0, 2, seed, 7);
        d.due("begin", 1).due("run 4", 12);
        same(d, 1, 0, seed, 10);
        d.due("hall 2 " + seed + " 1", 1).tape(">n;").due("compile", 3).due("begin", 1).due("run 4", 8);
        same(d, 1, 0, seed, 0);
    }

    private static void whoHasItWhen() {
        Desk d = new Desk();
        d.tape("a:n;>a;a:n;>a;").due("compile", 11).due("bound 0 0 0", Desk.ELEMENT).due("begin", 1);
        d.due("run 3", 6).due("bound 0 0 0", Desk.ELEMENT).due("bound 1 0 0", Desk.ELEMENT);
        d.due("step 0", 1).due("bound 1 0 0", Desk.ELEMENT);
        same(d, 0, 1, 0, 0);
        d.due("step 1", 1);
        same(d, 1, 0, 0, 0);
        d.due("run 7", 14).due("party 0 4", 1).due("run 3", 6).due("step 0", 1).due("party 0 1", 15);
        same(d, 0, 1, 0, 3);
        same(d, 1, 0, 0, 0);
        d.due("compile", 1).due("bound 0 0 0", Desk.ELEMENT).due("begin", 1).due("bound 0 0 0", Desk.ELEMENT);
    }

    private static void wrongOnes() {
        Desk d = new Desk().ready(2, ">n;");
        d.ask("run 2000");
        for (String none : new String[] {"0 0 -1", "0 0 32", "0 0 2147483647", "2 0 0", "0 2 0", "-1 0 0", "0 -1 0",
            "2147483647 0 0", "0 2147483647 0", "0 0 -2147483648"}) {
            d.due("bound " + none, Desk.ELEMENT);
        }
        d.due("begin", 1).due("bound 0 0 0", Desk.ELEMENT).due("hall 2 0 1", 1).due("bound 0 0 0", Desk.ELEMENT);
    }

    /** The bits that are dealt come from a generator of their own and go on from run to run. */
    private static void bits(long seed) {
        Desk d = new Desk();
        d.due("hall 2 " + seed + " 1", 1).due("deal -3 30", 30).tape("b=10;*b[n!;a=a*2;o=o*2+n;b=b-1;]>o;");
        d.ask("compile");
        for (int run = 0; run < 3; run++) {
            long want = 0;
            for (int i = 0; i < 10; i++) {
                want = 2 * want + (next(seed + 7000003, 10 * run + i) & 1);
            }
            d.due("begin", 1);
            d.ask("run 2000");
            d.each(2, "output", " 0", want);
        }
    }
}
