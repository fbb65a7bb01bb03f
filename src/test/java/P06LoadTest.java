/** Promise 6: code that is loaded, and code that the verifier refuses. */
public final class P06LoadTest {
    public static void main(String[] args) {
        form();
        targets();
        pile();
        sorts();
        height();
        whatStays();
        Desk.end();
    }

    private static int[] with(int[] first, int... then) {
        int[] all = java.util.Arrays.copyOf(first, first.length + then.length);
        System.arraycopy(then, 0, all, first.length, then.length);
        return all;
    }

    private static void form() {
        Desk d = new Desk();
        d.isNotLoaded(1, 0).isNotLoaded(1, 0, 30, 0).isNotLoaded(1, 1, 0, 255).isNotLoaded(1, 2, 0, 0, 77, 0);
        d.loads(1, 0).loads(3, 0, 0, 0).loads(2, 29, 0);
        int[] lengths = {1, 9, 2, 2, 1, 1, 1, 1, 1, 1, 1, 2, 2, 3, 3, 2, 2, 4, 3, 2, 2, 2, 2, 4, 4, 4, 3, 2, 3, 1};
        for (int operation = 1; operation < 30; operation++) {
            int[] whole = new int[lengths[operation]];
            whole[0] = operation;
            d.isNotLoaded(1, whole.length, whole);
            if (whole.length > 1) {
                d.isNotLoaded(1, 0, java.util.Arrays.copyOf(whole, whole.length - 1));
                d.isNotLoaded(1, 1, with(new int[] {0}, java.util.Arrays.copyOf(whole, whole.length - 1)));
            }
        }
        names();
    }

    private static void names() {
        Desk d = new Desk();
        for (int operation : new int[] {2, 3, 11, 12, 15, 16, 27}) {
            d.isNotLoaded(1, 0, operation, 13, 0).isNotLoaded(1, 0, operation, 255, 0);
        }
        d.loads(2, 15, 12, 0).loads(2, 16, 12, 0).loads(2, 27, 12, 0).loads(3, 2, 12, 12, 12, 0);
        d.isNotLoaded(1, 0, 13, 13, 0, 0).isNotLoaded(1, 0, 13, 0, 2, 0).loads(2, 13, 12, 1, 0);
        d.isNotLoaded(1, 0, 14, 13, 0, 0).isNotLoaded(1, 0, 14, 0, 13, 0).loads(2, 14, 12, 12, 0);
        d.isNotLoaded(1, 0, 17, 13, 0, 0, 0).loads(2, 17, 12, 0, 0, 0);
        for (int operation = 19; operation < 23; operation++) {
            d.isNotLoaded(1, 4, 2, 0, 2, 0, operation, 4, 0);
        }
        for (int operation = 23; operation < 26; operation++) {
            d.isNotLoaded(1, 0, operation, 8, 0, 0, 0).isNotLoaded(1, 0, operation, 0, 8, 0, 0);
            d.isNotLoaded(1, 0, operation, 0, 0, 8, 0).loads(2, operation, 7, 7, 7, 0);
        }
        d.isNotLoaded(1, 0, 26, 8, 0, 12, 0, 0).isNotLoaded(1, 0, 26, 0, 8, 12, 0, 0).loads(3, 26, 7, 7, 12, 0, 0);
        d.loads(3, 1, 31, 255, 255, 255, 255, 255, 255, 254, 11, 0, 0);
        d.isNotLoaded(1, 0, 1, 31, 255, 255, 255, 255, 255, 255, 255, 11, 0, 0);
        d.isNotLoaded(1, 0, 1, 128, 0, 0, 0, 0, 0, 0, 0, 11, 0, 0);
        d.isNotLoaded(1, 0, 1, 255, 255, 255, 255, 255, 255, 255, 255, 11, 0, 0);
        d.isNotLoaded(1, 4, 18, 0, 99, 4, 15, 13);
        d.due("hall 4 0 1", 1).loads(2, 13, 0, 3, 0).isNotLoaded(1, 0, 13, 0, 4, 0);
    }

    private static void targets() {
        Desk d = new Desk();
        d.loads(2, 18, 0, 0, 0).loads(2, 28, 0, 3, 0).loads(2, 17, 0, 0, 4, 0);
        d.isNotLoaded(2, 0, 18, 0, 4, 0).isNotLoaded(2, 0, 28, 0, 1, 0).isNotLoaded(2, 0, 17, 0, 255, 255, 0);
        d.isNotLoaded(2, 3, 18, 0, 3, 18, 1, 0, 4, 0);
        d.isNotLoaded(2, 1, 4, 18, 0, 2, 0);
    }

    private static void pile() {
        Desk d = new Desk();
        for (int operation : new int[] {4, 5, 6, 7}) {
            d.isNotLoaded(3, 0, operation, 0).isNotLoaded(3, 2, 3, 0, operation, 0);
        }
        for (int operation : new int[] {8, 9, 10}) {
            d.isNotLoaded(3, 0, operation, 0);
        }
        for (int operation : new int[] {11, 12, 19, 20, 21, 22}) {
            d.isNotLoaded(3, 0, operation, 0, 0);
        }
        d.isNotLoaded(3, 2, 2, 0, 21, 0, 0).isNotLoaded(3, 2, 2, 0, 22, 0, 0);
        d.isNotLoaded(3, 2, 2, 0, 0).isNotLoaded(3, 2, 2, 0, 17, 0, 0, 0, 11, 0, 0);
        d.isNotLoaded(3, 2, 2, 0, 18, 0, 0, 11, 0, 0).isNotLoaded(3, 2, 2, 0, 28, 0, 0, 11, 0, 0);
        d.isNotLoaded(3, 2, 2, 0, 29, 11, 0, 0);
        d.isNotLoaded(3, 5, 18, 0, 5, 2, 0, 11, 0, 0);
        d.isNotLoaded(3, 5, 28, 0, 5, 2, 0, 11, 0, 0);
        d.isNotLoaded(3, 6, 17, 0, 0, 6, 2, 0, 11, 0, 0);
        d.isNotLoaded(3, 3, 18, 0, 4, 4, 0).isNotLoaded(3, 1, 0, 8, 0).isNotLoaded(3, 1, 29, 8, 0);
        d.loads(5, 18, 0, 5, 15, 0, 2, 0, 11, 0, 0);
        d.loads(6, 2, 0, 13, 0, 0, 27, 0, 16, 0, 12, 0, 0);
    }

    private static void sorts() {
        Desk d = new Desk();
        int[][] pairs = {{2, 2}, {2, 3}, {3, 2}, {3, 3}};
        for (int[] pair : pairs) {
            int[] both = {pair[0], 0, pair[1], 0};
            boolean clear = pair[0] == 2 && pair[1] == 2;
            boolean secret = pair[0] == 3 && pair[1] == 3;
            for (int operation : new int[] {4, 5, 6, 7}) {
                int[] code = with(with(both, operation), clear ? 11 : 12, 0, 0);
                if (operation == 6 && secret || operation == 7 && !secret) {
                    d.isNotLoaded(3, 4, code);
                } else {
                    d.loads(5, code);
                    if (!clear) {
                        d.isNotLoaded(3, 5, with(with(both, operation), 11, 0, 0));
                    }
                }
            }
            if (pair[0] == 3 || pair[1] == 3) {
                d.isNotLoaded(3, 4, with(both, 21, 0, 0));
            } else {
                d.loads(4, with(both, 21, 3, 0));
            }
            if (pair[0] == 3) {
                d.isNotLoaded(3, 4, with(both, 22, 0, 0));
            } else {
                d.loads(4, with(both, 22, 3, 0));
            }
        }
        d.loads(4, 2, 0, 8, 11, 0, 0).isNotLoaded(3, 3, 3, 0, 8, 11, 0, 0);
        d.loads(4, 2, 0, 9, 11, 0, 0).isNotLoaded(3, 2, 3, 0, 9, 12, 0, 0);
        d.loads(4, 3, 0, 10, 12, 0, 0).isNotLoaded(3, 2, 2, 0, 10, 12, 0, 0).isNotLoaded(3, 3, 3, 0, 10, 11, 0, 0);
        d.loads(4, 2, 0, 19, 0, 11, 0, 0).isNotLoaded(3, 2, 3, 0, 19, 0, 11, 0, 0);
        d.loads(4, 2, 0, 20, 0, 12, 0, 0).isNotLoaded(3, 2, 3, 0, 20, 0, 12, 0, 0);
        d.isNotLoaded(3, 4, 2, 0, 20, 0, 11, 0, 0).isNotLoaded(3, 2, 3, 0, 11, 0, 0).loads(3, 2, 0, 12, 0, 0);
        d.isNotLoaded(3, 3, 26, 0, 1, 11, 0, 0).loads(3, 26, 0, 1, 12, 0, 0);
        for (int operation = 23; operation < 26; operation++) {
            d.isNotLoaded(3, 0, operation, 3, 4, 0, 0).isNotLoaded(3, 0, operation, 3, 0, 4, 0);
            d.loads(2, operation, 3, 0, 1, 0).loads(2, operation, 4, 0, 1, 0).loads(2, operation, 4, 0, 5, 0);
        }
    }

    private static void height() {
        int[] code = {};
        for (int i = 0; i < 64; i++) {
            code = with(code, i % 2 == 0 ? 2 : 3, 0);
        }
        int[] drops = {};
        for (int i = 0; i < 64; i++) {
            drops = with(drops, 12, 0);
        }
        Desk d = new Desk();
        d.loads(129, with(with(code, drops), 0));
        for (int[] more : new int[][] {{2, 0}, {3, 0}, {26, 0, 0}, {1, 0, 0, 0, 0, 0, 0, 0, 0}}) {
            d.isNotLoaded(3, 128, with(with(with(code, more), drops), 12, 0, 0));
        }
        d.loads(130, with(with(with(code, 8), drops), 0));
    }

    private static void whatStays() {
        Desk d = new Desk().ready(2, "n<0;>n;");
        d.due("give 0 4", 1).due("step 0", 1);
        d.isNotLoaded(3, 0, 4, 0).due("total 3", 6).due("code 0", 13).due("party 0 1", 1);
        d.due("load", Desk.ARGUMENT).due("run 2000", 24).due("output 0 0", 4);
        d.loads(2, 15, 0, 0).due("total 3", 3).due("party 0 0", 2).due("output 0 0", Desk.ELEMENT).due("code 0", 15);
        d.due("load", Desk.ARGUMENT).due("fault 0", 1).due("fault 1", 0).due("code 0", 15);
        d.due("begin", 1).due("run 9", 2).due("output 1 0", 0);
    }
}
