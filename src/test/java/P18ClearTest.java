/** Promise 18: clear variables and places of clear arrays. */
public final class P18ClearTest {
    public static void main(String[] args) {
        Edge.of("A clear VARIABLE (0 a .. 12 m), or place of a clear ARRAY (100 + 16 * p + place) of a PARTY", P18ClearTest::variables);
        Edge.of("A clear VARIABLE (0 a .. 12 m), or place of a clear ARRAY (100 + 16 * p + place) of a PARTY", P18ClearTest::places);
        Edge.of("of a PARTY as it is in this RUN", P18ClearTest::asItIs);
        Edge.of("NoSuchElementException: there is none such, or no RUN", P18ClearTest::noneSuch);
        Edge.of("NoSuchElementException: there is none such, or no RUN", P18ClearTest::noRun);
        Edge.end();
    }

    private static void variables() {
        StringBuilder text = new StringBuilder();
        for (char v = 'a'; v <= 'm'; v++) {
            text.append(v).append("=").append(10 + v - 'a').append(";");
        }
        new Desk().starts(text + "n=7;z=8;").runs().clears(0, 10, 11, 12, 13, 14, 15, 16, 17, 18, 19, 20, 21, 22)
            .clears(1, 10, 11, 12, 13, 14, 15, 16, 17, 18, 19, 20, 21, 22);
    }

    private static void places() {
        Desk d = new Desk().starts("a=16;*a[a=a-1;A[a]=a+1;B[a]=a+101;C[a]=a+201;D[a]=a+301;E[a]=999;]").runs();
        for (int p = 0; p < 4; p++) {
            for (int place = 0; place < 16; place++) {
                d.each(2, "clear", " " + (100 + 16 * p + place), 100 * p + place + 1);
            }
        }
    }

    private static void asItIs() {
        Desk d = new Desk().starts("a=1;A[0]=2;b:n;").due("clear 0 0", 0).due("clear 1 163", 0).due("step 0", 1).due("clear 0 0", 1);
        d.due("clear 1 0", 0).due("clear 0 100", 0).due("step 0", 1).due("clear 0 100", 2).due("begin", 1).due("clear 0 0", 0).due("clear 0 100", 0);
        d.due("tamper 0 0 0 9", 1).due("run 3", 6).each(2, "clear", " 1", 0).due("run 1", 2).each(2, "clear", " 1", 9);
    }

    private static void noneSuch() {
        Desk d = new Desk().starts("a=1;").runs();
        d.all("clear", Desk.ELEMENT, "0 -1", "0 13", "0 14", "0 99", "0 164", "0 165", "0 228", "0 2147483647", "0 -2147483648", "0 -100");
        d.all("clear", Desk.ELEMENT, "2 0", "-1 0", "2 100", "3 0", "2147483647 0", "-2147483648 0", "2147483647 100");
        d.due("clear 0 0", 1).due("clear 0 12", 0).due("clear 1 100", 0).due("clear 1 163", 0);
    }

    private static void noRun() {
        Desk d = new Desk().due("clear 0 0", Desk.ELEMENT).due("clear 0 100", Desk.ELEMENT).tape("a=1;").due("compile", 12);
        d.due("clear 0 0", Desk.ELEMENT).due("begin", 1).due("clear 0 0", 0).due("compile", 1).due("clear 0 0", Desk.ELEMENT);
        d.due("begin", 1).due("clear 0 0", 0).loads(1, 0).due("clear 0 100", Desk.ELEMENT).due("begin", 1).due("clear 0 100", 0);
        d.due("hall 2 0 1", 1).due("clear 0 0", Desk.ELEMENT);
    }
}
