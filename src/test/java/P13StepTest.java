/** Promise 13: steps one by one, what is one, and what a party lacks. */
public final class P13StepTest {
    public static void main(String[] args) {
        exceptions();
        whatIsAStep();
        inputs();
        exchanges();
        checks();
        lacks();
        lacksPlaces();
        lacksKept();
        failsByCheckAndNotice();
        noticeGoesAhead();
        Desk.end();
    }

    private static void exceptions() {
        Desk d = new Desk();
        d.due("step 0", 2).due("step 1", 2).due("step 2", Desk.INDEX).due("step -1", Desk.INDEX);
        d.due("step 2147483647", Desk.INDEX).due("step -2147483648", Desk.INDEX);
        d.loads(2, 18, 0, 0, 0).due("begin", 1);
        for (int i = 0; i < 7; i++) {
            d.due("run 2000", 4000);
        }
        d.due("run 999", 1998).due("step 0", 1).due("step 1", 1).due("total 2", 30000);
        d.due("step 0", Desk.STATE).due("step 2", Desk.INDEX).due("total 2", 30000);
        d.due("compile", 1).due("step 0", Desk.STATE).due("begin", 1).due("step 1", Desk.STATE);
        d.due("hall 3 0 1", 1).due("step 2", Desk.STATE).due("step 3", Desk.INDEX).due("total 2", 30000);
    }

    private static void whatIsAStep() {
        Desk d = new Desk();
        d.loads(8, 1, 0, 0, 0, 0, 0, 0, 0, 9, 2, 0, 3, 0, 4, 4, 8, 12, 0, 0).due("begin", 1);
        for (int i = 0; i < 3; i++) {
            d.due("step 0", 1).due("party 0 0", 1);
        }
        d.due("step 0", 1).due("party 0 0", 2).due("party 0 1", 4).due("step 0", 2).due("party 0 1", 4);
        d.due("party 1 0", 1).due("party 1 1", 0).due("total 2", 4);
        d.tape("A=B+C;A=B-C;A=B*C;E=F*C;n=A.B;n=A.E;@1;@1[]").due("compile", 34).due("begin", 1);
        for (int i = 1; i <= 11; i++) {
            d.due("step 1", 1).due("party 1 1", i);
        }
        d.due("step 1", 2).due("party 1 7", 0);
        d.loads(3, 0, 29, 0).due("begin", 1).due("step 0", 2);
    }

    private static void inputs() {
        Desk d = new Desk();
        d.due("deal 0 1", 1).due("give 0 8", 1).tape("n<0;").due("compile", 4).due("begin", 1);
        d.due("step 1", 0).due("step 0", 1).due("party 0 0", 1).due("party 0 2", 1).due("party 0 3", 0).due("step 1", 0);
        d.due("step 0", 1).due("party 0 0", 2).due("party 0 3", 1).due("step 1", 0).due("deliver 0 1", 1);
        d.due("step 1", 1).due("party 1 0", 2).due("party 1 2", 0).due("party 1 3", 1).due("party 1 1", 1);
        Desk full = new Desk();
        full.due("hall 3 0 2", 1).due("deal 0 4", 4);
        for (int i = 0; i < 4; i++) {
            full.due("give 0 " + i, 1);
        }
        full.tape("n<0;n<0;n<0;n<0;").due("compile", 13).due("begin", 1);
        for (int i = 0; i < 4; i++) {
            full.due("step 0", 1);
        }
        full.due("step 0", 0).due("party 0 11", 2).due("party 0 12", 2).due("deliver 0 1", 1).due("step 0", 0);
        full.due("party 0 6", 2).due("deliver 0 2", 1).due("step 0", 1).due("party 0 6", 1).due("party 1 20", 1);
    }

    private static void exchanges() {
        for (String text : new String[] {"a:n;", "n=n*o;", "n=n^;", "E=F*G;", "n=E.F;"}) {
            int more = text.startsWith("n=") ? 1 : 0;
            Desk d = new Desk().ready(3, text);
            d.due("step 0", 1).due("party 0 11", 1).due("party 0 12", 1).due("step 0", 0).due("step 1", 1);
            d.due("deliver 0 2", 1).due("deliver 1 2", 1).due("deliver 1 0", 1).due("step 0", 0).due("step 2", 1);
            d.due("step 2", 1).due("deliver 2 0", 1).due("step 0", 1).due("party 0 20", 0).due("party 0 21", 0);
            d.due("party 0 22", 0).due("party 0 1", 2).due("party 0 0", 2 - more).due("step 0", 2 - more);
            d.due("deliver 2 1", 1).due("step 1", 0).due("party 1 22", 1).due("deliver 0 1", 1).due("step 1", 1);
        }
    }

    /** Nothing was opened ahead of the first and the last one, nor ahead of the secret one. */
    private static void checks() {
        Desk d = new Desk().ready(2, ">a;>n;a:n;>a;>a;");
        int[] steps = {1, 2 + 8 + 1, 2, 8 + 1, 1};
        int[] through = {0, 1, 1, 2, 2};
        int[] out = {1, 2, 2, 3, 4};
        for (int i = 0; i < steps.length; i++) {
            for (int k = 0; k < steps[i]; k++) {
                d.due("step 0", 1).due("step 1", 1);
                d.ask("deliver 0 1");
                d.ask("deliver 1 0");
            }
            d.each(2, "party", " 8", through[i]).each(2, "party", " 4", out[i]);
        }
        d.each(2, "party", " 0", 2).each(2, "party", " 1", 24).each(2, "party", " 2", 10).each(2, "party", " 3", 10);
    }

    private static void lacks() {
        Desk d = new Desk();
        String[] texts = {"n<0;", "n=n*o;", "n=n^;", "E=F*G;", "n=E.F;", "n!;"};
        int[] lacks = {1, 3, 4, 3, 3, 6};
        for (int i = 0; i < texts.length; i++) {
            d.tape(texts[i]);
            d.ask("compile");
            d.due("begin", 1).due("party 0 0", 1).due("party 0 7", 0).due("step 0", 4).due("party 0 0", 4);
            d.due("party 0 7", lacks[i]).due("step 0", 4).due("party 0 1", 0).due("total 2", 0);
        }
        d.due("give 0 1", 1).tape("n<0;").due("compile", 4).due("begin", 1).due("step 0", 4).due("party 0 7", 2);
        d.due("party 0 6", 1).due("deal 0 1", 1).due("step 0", 4).due("party 0 7", 2).due("step 1", 0);
        d.due("begin", 1).due("step 0", 1);
        Desk few = new Desk();
        few.due("deal -1 15", 15).tape("E=F*G;n=n*n;").due("compile", 12).due("begin", 1).due("step 1", 4);
        few.due("party 1 7", 3).due("total 1", 15).due("deal -1 1", 16).due("step 0", 1).due("total 1", 16);
        few.due("step 0", 0).due("begin", 1).due("total 1", 0);
        lackGoesAheadOfWait();
    }

    private static void lackGoesAheadOfWait() {
        Desk d = new Desk();
        d.due("deal 0 1", 1).due("give 0 1", 1).tape("n<0;n<0;").due("compile", 7).due("begin", 1);
        d.due("step 0", 1).due("step 0", 1).due("party 0 11", 1).due("step 0", 4).due("party 0 7", 1);
        Desk second = new Desk();
        second.due("deal 0 1", 1).due("give 0 1", 1).tape("n<0;n=n*n;").due("compile", 11).due("begin", 1);
        second.due("step 0", 1).due("step 0", 1).due("party 0 11", 1).due("step 0", 4).due("party 0 7", 3);
    }

    private static void lacksPlaces() {
        for (String text : new String[] {"a=A[16];", "n=E[16];", "A[16]=1;", "E[16]=n;", "a=A[-1];", "E[-1]=1;",
            "A[999999999999999999]=1;", "n=E[4294967296];"}) {
            Desk d = new Desk().ready(2, text);
            if (text.contains("-")) {
                d.due("step 0", 1);
            }
            d.due("step 0", 4).due("party 0 7", 5).due("party 0 0", 4).due("run 2000", text.contains("-") ? 1 : 0);
            d.due("party 1 7", 5);
        }
        new Desk().ready(2, "A[15]=3;a=A[15];A[0]=a;").due("run 2000", 8).each(2, "clear", " 100", 3);
    }

    private static void lacksKept() {
        Desk d = new Desk().ready(2, "@1;@1[@1;]");
        for (int i = 1; i <= 16; i++) {
            d.due("step 0", 1).due("party 0 30", i);
        }
        d.due("step 0", 4).due("party 0 7", 7).due("party 0 30", 16).due("party 0 1", 16);
        d.loads(2, 29, 0).due("begin", 1).due("step 0", 4).due("party 0 7", 7);
    }

    private static void failsByCheckAndNotice() {
        Desk d = new Desk().ready(3, "a:n;>a;");
        d.due("tamper 1 0 0 9", 1).due("run 9", 27);
        d.due("step 0", 3).due("party 0 0", 3).due("party 0 9", 1).due("party 0 1", 10).due("party 0 3", 5);
        d.due("party 0 8", 1).due("total 2", 28).due("party 0 11", 1).due("party 0 12", 1).due("step 0", 3);
        d.due("total 2", 28).due("party 0 1", 10).due("deliver 0 1", 1).due("deliver 0 1", 0).due("party 1 0", 1);
        d.due("party 1 20", 1).due("step 1", 3).due("party 1 9", 2).due("party 1 1", 9).due("party 1 8", 0);
        d.due("party 1 10", 0).due("party 1 12", 0).due("total 2", 28).due("step 2", 3).due("party 2 9", 1);
        d.due("party 2 10", 1).due("party 2 11", 1).due("total 2", 29).due("deliver 2 1", 1).due("deliver 2 0", 1);
        d.due("party 0 9", 1).due("party 1 9", 2).due("step 1", 3);
    }

    /** A notice makes a party fail also where it would wait or lack something. */
    private static void noticeGoesAhead() {
        Desk d = new Desk().ready(4, "a:n;>a;");
        d.due("tamper 1 0 0 9", 1).due("run 8", 32).each(4, "step", "", 1);
        for (int from = 1; from < 4; from++) {
            d.due("deliver " + from + " 0", 1);
        }
        d.due("step 0", 3).due("step 3", 0).due("deliver 0 3", 1).due("deliver 0 3", 1).due("step 3", 3);
        d.due("party 3 9", 2).due("party 3 8", 0).due("deliver 0 3", 0);
    }
}
