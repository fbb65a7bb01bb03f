/** Terms: A RUN, its steps, sending and receiving, and what a party lacks. */
public final class T07RunTest {
    public static void main(String[] args) {
        Edge.of("all VARIABLES and ARRAYS 0, no place KEPT", T07RunTest::beginsWithNothing);
        Edge.of("each OPERATION is one, but 1, 2, 3, 0, which are none", T07RunTest::whatIsAStep);
        Edge.of("(WAITS, if one of these has as many as the BOUND)", T07RunTest::fullWires);
        Edge.of("(one's own is there at once; WAITS, if one is missing)", T07RunTest::missingMails);
        Edge.of("A STEP is DONE, or it WAITS", T07RunTest::eachSendAndReceiveWaits);
        Edge.of("13: PARTY q takes its next input and a MASK, and SENDS (a STEP); each PARTY RECEIVES (a STEP)", T07RunTest::inputs);
        Edge.of("7: SEND two numbers, RECEIVE. 10: SEND one, RECEIVE", T07RunTest::exchanges);
        Edge.of("25, 26 of two secret ARRAYS: SEND 32 numbers", T07RunTest::exchangesOfArrays);
        Edge.of("15: a CHECK, then a STEP that puts it out", T07RunTest::stepsOfPuttingOut);
        Edge.of("behind its latest STEP, or from begin() on, there is nothing but 1, 2, 3 ahead of it", T07RunTest::ended);
        Edge.of("an input 1, a MASK 2", T07RunTest::lacksInputOrMask);
        Edge.of("TRIPLES 3, a SQUARE 4", T07RunTest::lacksTriplesOrSquare);
        Edge.of("a place that is not 0 .. 15: 5", T07RunTest::lacksPlace);
        Edge.of("a BIT 6", T07RunTest::lacksBit);
        Edge.of("room where 28 would keep a 17th place, or a KEPT one for 29: 7", T07RunTest::lacksKept);
        Edge.of("found when it would go on, ahead of whether it WAITS", T07RunTest::lackGoesAheadOfWait);
        Edge.of("the STEP is not DONE; input ahead of MASK", T07RunTest::inputAheadOfMask);
        Edge.of("does no more STEPS", T07RunTest::noMoreSteps);
        Edge.end();
    }

    private static void beginsWithNothing() {
        Desk d = new Desk().ready(2, "a=a+1;m=m+2;A[0]=A[0]+3;D[15]=D[15]+4;n=n+5;z=z+6;E[0]=E[0]+7;H[15]=H[15]+8;"
            + "b:n;c:z;n=E[0];d:n;n=H[15];e:n;@1;@1[@1;]");
        for (int i = 0; i < 3; i++) {
            d.due("begin", 1).each(2, "party", " 30", 0).each(2, "clear", " 0", 0).each(2, "clear", " 100", 0);
            d.runs().clears(0, 1, 5, 6, 7, 8).clears(1, 1, 5, 6, 7, 8).due("clear 0 12", 2).due("clear 1 100", 3);
            d.due("clear 0 163", 4).each(2, "party", " 30", 16).each(2, "party", " 7", 7);
        }
    }

    private static void whatIsAStep() {
        Desk d = new Desk();
        d.loads(8, 1, 0, 0, 0, 0, 0, 0, 0, 9, 2, 0, 3, 0, 4, 4, 8, 12, 0, 0).due("begin", 1);
        for (int i = 0; i < 3; i++) {
            d.due("step 0", 1).due("party 0 0", 1);
        }
        d.due("step 0", 1).due("party 0 0", 2).due("party 0 1", 4).due("step 0", 2).due("party 0 1", 4);
        d.due("party 1 0", 1).due("party 1 1", 0).due("total 2", 4);
        d.tape("A=B+C;A=B-C;A=B*C;E=F*C;n=A.B;n=A.E;@1;@1[]").due("compile", 34).due("begin", 1);
        for (int i = 1; i <= 11; i++) {
            d.due("step 1", 1).due("party 1 1", i);
        }
        d.due("step 1", 2).due("party 1 7", 0);
        Desk others = new Desk();
        others.due("deal -3 1", 1).starts("a=A[1];A[1]=a;n=E[1];E[1]=n;b=-a^*2;n!;?a[|]*a[]");
        others.due("run 2000", 2 * (2 + 1 + 2 + 1 + 4 + 1 + 1 + 1)).each(2, "party", " 0", 2);
    }

    /** One full wire is enough; nothing is put on the others then. */
    private static void fullWires() {
        Desk d = new Desk();
        d.due("hall 3 0 2", 1).due("deal 0 4", 4).all("give 0", 1, "1", "2", "3", "4").starts("n<0;n<0;n<0;n<0;");
        d.all("step", 1, "0", "0", "0", "0").due("step 0", 0).due("party 0 11", 2).due("party 0 12", 2).due("party 0 2", 2);
        d.due("deliver 0 1", 1).due("step 0", 0).due("party 0 11", 1).due("party 0 12", 2).due("party 0 6", 2).due("party 0 1", 4);
        d.due("deliver 0 2", 1).due("step 0", 1).due("party 0 6", 1).due("party 0 11", 2).due("party 0 12", 2).due("step 0", 1);
        d.due("step 0", 0).due("deliver 0 2", 1).due("step 0", 0).due("deliver 0 1", 1).due("step 0", 1).due("party 0 2", 4);
        oneFullWire();
        Desk open = new Desk();
        open.due("give 0 1", 1).due("deal 0 1", 1).starts("n<0;a:n;").all("step", 1, "0", "0").due("step 0", 0);
        open.due("deliver 0 1", 1).due("step 0", 1).due("party 1 20", 1).due("party 0 11", 1);
        Desk check = new Desk();
        check.starts("a:n;>a;").due("step 0", 1).due("step 1", 1).due("deliver 1 0", 1).due("step 0", 1).due("step 0", 0);
        check.due("party 0 11", 1).due("party 0 2", 1).due("deliver 0 1", 1).due("step 0", 1).due("party 0 2", 2);
    }

    /** Whichever wire it is that is full. */
    private static void oneFullWire() {
        for (int from = 0; from < 4; from++) {
            for (int full = 0; full < 4; full++) {
                Desk d = new Desk();
                d.due("hall 4 0 1", 1).due("deal " + from + " 2", 2).due("give " + from + " 1", 1).due("give " + from + " 2", 1);
                d.starts("n<0;n<0;".replace('0', (char) ('0' + from))).all("step", 1, "" + from, "" + from);
                for (int to = 0; to < 4; to++) {
                    if (to != from && to != full) {
                        d.due("deliver " + from + " " + to, 1);
                    }
                }
                d.due("step " + from, from == full ? 1 : 0).due("party " + from + " 2", from == full ? 2 : 1);
            }
        }
    }

    private static void missingMails() {
        Desk d = new Desk();
        d.due("hall 4 0 1", 1).starts("a:n;").each(4, "step", "", 1).due("step 0", 0).due("deliver 1 0", 1).due("step 0", 0);
        d.due("deliver 3 0", 1).due("step 0", 0).due("party 0 21", 1).due("party 0 23", 1).due("party 0 22", 0).due("party 0 3", 0);
        d.due("deliver 2 0", 1).due("step 0", 1).all("party 0", 0, "21", "22", "23").due("party 0 3", 1).due("party 0 0", 2);
        d.due("step 1", 0).due("party 1 0", 1).due("party 0 11", 1);
    }

    /**
     * At each receive the other one's mail is missing first, and at each send the wire is full of the
     * mail before; the programs have nothing but sends and receives till a number is put out.
     */
    private static void eachSendAndReceiveWaits() {
        String[] texts = {"a:n;>n;", "E=F*G;>a;", ">n;", "a:n;b:n;E=F*E;>n;"};
        int[] exchanges = {1 + 4 + 1 + 4, 1 + 4, 1 + 4, 3 + 4 + 1 + 4};
        for (int i = 0; i < texts.length; i++) {
            Desk d = new Desk().due("deal -1 16", 16).starts(texts[i]).due("step 0", 1);
            for (int k = 1; k <= exchanges[i]; k++) {
                d.due("step 0", 0).due("step 1", 1).due("step 0", 0).due("deliver 1 0", 1).due("step 0", 1).due("party 0 3", k);
                if (k < exchanges[i]) {
                    d.due("step 0", 0).due("step 1", 0).due("party 0 2", k).due("deliver 0 1", 1).due("step 0", 1).due("step 1", 1);
                }
            }
            d.due("party 0 4", 0).due("step 0", 1).due("party 0 4", 1).due("party 0 0", 2).due("party 0 1", 2 * exchanges[i] + 1);
        }
        Desk full = new Desk().due("deal 0 1", 1).due("give 0 5", 1).starts("n<0;>n;").all("step", 1, "0", "0").due("step 0", 0);
        full.due("party 0 2", 1).due("deliver 0 1", 1).due("step 0", 1).due("party 0 2", 2).due("step 0", 0);
    }

    private static void inputs() {
        Desk d = new Desk();
        d.due("deal 0 1", 1).due("give 0 8", 1).starts("n<0;");
        d.due("step 1", 0).due("step 0", 1).due("party 0 0", 1).due("party 0 2", 1).due("party 0 3", 0).due("step 1", 0);
        d.due("step 0", 1).due("party 0 0", 2).due("party 0 3", 1).due("step 1", 0).due("deliver 0 1", 1);
        d.due("step 1", 1).due("party 1 0", 2).due("party 1 2", 0).due("party 1 3", 1).due("party 1 1", 1).due("party 0 1", 2);
        Desk three = new Desk();
        three.due("hall 3 0 1", 1).due("deal 2 1", 1).due("give 2 8", 1).starts("n<2;").due("step 2", 1).due("party 2 10", 1);
        three.due("party 2 11", 1).due("deliver 2 0", 1).due("step 0", 1).due("party 0 0", 2).due("step 1", 0).due("step 2", 1);
    }

    private static void exchanges() {
        for (String text : new String[] {"a:n;", "n=n*o;", "n=n^;"}) {
            exchange(text);
        }
    }

    private static void exchangesOfArrays() {
        exchange("E=F*G;");
        exchange("n=E.F;");
    }

    private static void exchange(String text) {
        int more = text.startsWith("n=") ? 1 : 0;
        Desk d = new Desk().ready(3, text);
        d.due("step 0", 1).due("party 0 11", 1).due("party 0 12", 1).due("step 0", 0).due("step 1", 1);
        d.due("deliver 0 2", 1).due("deliver 1 2", 1).due("deliver 1 0", 1).due("step 0", 0).due("step 2", 1);
        d.due("step 2", 1).due("deliver 2 0", 1).due("step 0", 1).due("party 0 20", 0).due("party 0 21", 0);
        d.due("party 0 22", 0).due("party 0 1", 2).due("party 0 0", 2 - more).due("step 0", 2 - more);
        d.due("party 0 2", 1).due("party 0 3", 1);
        d.due("deliver 2 1", 1).due("step 1", 0).due("party 1 22", 1).due("deliver 0 1", 1).due("step 1", 1);
    }

    /** Nothing was opened ahead of the first and the last one, nor ahead of the secret one. */
    private static void stepsOfPuttingOut() {
        Desk d = new Desk().ready(2, ">a;>n;a:n;>a;>a;");
        int[] steps = {1, 2 + 8 + 1, 2, 8 + 1, 1};
        int[] through = {0, 1, 1, 2, 2};
        int[] out = {1, 2, 2, 3, 4};
        for (int i = 0; i < steps.length; i++) {
            for (int k = 0; k < steps[i]; k++) {
                d.each(2, "party", " 4", out[i] - (i == 2 ? 0 : 1)).due("step 0", 1).due("step 1", 1);
                d.ask("deliver 0 1");
                d.ask("deliver 1 0");
            }
            d.each(2, "party", " 8", through[i]).each(2, "party", " 4", out[i]);
        }
        d.each(2, "party", " 0", 2).each(2, "party", " 1", 24).each(2, "party", " 2", 10).each(2, "party", " 3", 10);
        new Desk().starts("a:n;>n;").due("run 2000", 2 * (2 + 8 + 2 + 8 + 1)).each(2, "party", " 8", 2).each(2, "party", " 2", 10);
    }

    private static void ended() {
        new Desk().loads(1, 0).due("begin", 1).each(2, "party", " 0", 2).due("step 0", 2).due("party 0 1", 0);
        new Desk().loads(3, 0, 29, 0).due("begin", 1).each(2, "party", " 0", 2).due("step 0", 2);
        Desk d = new Desk();
        d.loads(3, 18, 0, 3, 0, 0).due("begin", 1).due("party 0 0", 1).due("step 0", 1).due("party 0 0", 2).due("party 1 0", 1);
        d.loads(5, 15, 0, 2, 0, 11, 0, 0, 0).due("begin", 1).due("step 0", 1).due("party 0 0", 1).due("step 0", 1).due("party 0 0", 2);
        d.loads(3, 17, 0, 0, 5, 29, 0).due("begin", 1).due("step 0", 1).due("party 0 0", 2).due("step 0", 2);
    }

    private static void lacksInputOrMask() {
        Desk d = new Desk();
        d.starts("n<0;").due("party 0 0", 1).due("party 0 7", 0).due("step 0", 4).due("party 0 7", 1).due("party 0 0", 4);
        d.due("give 0 1", 1).due("begin", 1).due("step 0", 4).due("party 0 7", 2).due("party 0 6", 1).due("party 0 2", 0);
        d.due("deal 0 1", 1).due("begin", 1).due("step 0", 1).due("party 0 7", 0).due("begin", 1).due("step 0", 4).due("party 0 7", 1);
        d.due("step 1", 0).due("party 1 7", 0).due("party 1 0", 1);
    }

    private static void lacksTriplesOrSquare() {
        for (String text : new String[] {"n=n*o;", "E=F*G;", "n=E.F;", "n=n^;"}) {
            Desk d = new Desk();
            boolean square = text.contains("^");
            int need = square || text.equals("n=n*o;") ? 1 : 16;
            d.starts(text).due("step 1", 4).due("party 1 7", square ? 4 : 3).due("party 1 2", 0).due("total 2", 0);
            d.due("deal " + (square ? -2 : -1) + " " + (need - 1), need - 1).due("begin", 1).due("step 1", 4);
            d.due("deal " + (square ? -2 : -1) + " 1", need).due("begin", 1).due("step 1", 1).due("party 1 7", 0);
        }
    }

    private static void lacksPlace() {
        for (String text : new String[] {"a=A[16];", "n=E[16];", "A[16]=1;", "E[16]=n;", "A[999999999999999999]=1;", "n=E[4294967296];"}) {
            Desk d = new Desk().starts(text);
            d.due("step 0", 4).due("party 0 7", 5).due("party 0 0", 4).due("party 0 1", 0).due("run 2000", 0).due("party 1 7", 5);
        }
        for (String text : new String[] {"a=A[-1];", "E[-1]=1;", "A[0-1]=16;", "n=E[a-1];"}) {
            new Desk().starts(text).due("step 0", 1).due("step 0", 4).due("party 0 7", 5).due("party 0 1", 1);
        }
        new Desk().starts("A[15]=16;a=A[15];A[0]=a;E[15]=99;n=E[0];").runs().each(2, "clear", " 100", 16).each(2, "party", " 0", 2);
    }

    private static void lacksBit() {
        Desk d = new Desk();
        d.starts("n!;n!;").due("step 0", 4).due("party 0 7", 6).due("deal -3 1", 1).due("step 0", 4).due("step 1", 1).due("step 1", 4);
        d.due("party 1 7", 6).due("party 1 1", 1).due("deal -3 2", 3).due("begin", 1).due("total 6", 2).due("run 2000", 4);
    }

    private static void lacksKept() {
        Desk d = new Desk().starts("@1;@1[@1;]");
        for (int i = 1; i <= 16; i++) {
            d.due("step 0", 1).due("party 0 30", i);
        }
        d.due("step 0", 4).due("party 0 7", 7).due("party 0 30", 16).due("party 0 1", 16);
        d.loads(2, 29, 0).due("begin", 1).due("step 0", 4).due("party 0 7", 7).due("party 0 30", 0);
        Desk deep = new Desk().starts("a=15;@1;@1[b=b+1;?a[a=a-1;@1;|]]");
        deep.runs().each(2, "party", " 0", 2).each(2, "clear", " 1", 16).each(2, "party", " 30", 0);
        Desk deeper = new Desk().starts("a=16;@1;@1[b=b+1;?a[a=a-1;@1;|]]");
        deeper.runs().each(2, "party", " 7", 7).each(2, "clear", " 1", 16).each(2, "party", " 30", 16);
    }

    /** The wire is full, yet what is lacking is told. */
    private static void lackGoesAheadOfWait() {
        String[] texts = {"n<0;", "n<0;", "n=n*n;", "n=n^;", "E=E*F;", "n=E.E;"};
        int[] lacks = {1, 2, 3, 4, 3, 3};
        for (int i = 0; i < texts.length; i++) {
            Desk d = new Desk();
            d.due("deal 0 1", 1).due("give 0 1", 1);
            if (i == 1) {
                d.due("give 0 2", 1);
            }
            d.starts("n<0;" + texts[i]).due("step 0", 1).due("step 0", 1).due("party 0 11", 1).due("step 0", 4);
            d.due("party 0 7", lacks[i]).due("party 0 1", 2).due("party 0 11", 1);
        }
        Desk waits = new Desk();
        waits.due("deal 0 1", 1).due("give 0 1", 1).due("deal -1 1", 1).starts("n<0;n=n*n;").due("step 0", 1).due("step 0", 1);
        waits.due("step 0", 0).due("party 0 7", 0).due("total 1", 1);
    }

    private static void inputAheadOfMask() {
        Desk d = new Desk();
        d.starts("n<0;").due("step 0", 4).due("party 0 7", 1).due("party 0 1", 0).due("total 2", 0);
        d.due("deal 0 1", 1).due("begin", 1).due("step 0", 4).due("party 0 7", 1).due("party 0 5", 1);
        d.due("give 0 3", 1).due("begin", 1).due("step 0", 1).due("party 0 5", 0).due("give 0 4", 1);
        d.due("begin", 1).due("step 0", 4).due("party 0 7", 2).due("party 0 6", 1);
    }

    private static void noMoreSteps() {
        Desk d = new Desk();
        d.starts("n!;a=1;").due("step 0", 4).due("deal -3 5", 5).due("step 0", 4).due("run 2000", 2).due("party 0 1", 0);
        d.due("clear 0 0", 0).due("clear 1 0", 1).due("step 1", 2).due("run 2000", 0).due("party 1 1", 2);
        Desk failed = new Desk().ready(2, "a:n;>a;b=1;");
        failed.due("tamper 0 0 0 1", 1).due("run 2000", 20).each(2, "step", "", 3).due("run 2000", 0).each(2, "party", " 1", 10);
        failed.each(2, "clear", " 1", 0).each(2, "party", " 4", 0);
    }
}
