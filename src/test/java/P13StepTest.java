/** Promise 13: what a step answers; what a step is, is with "Terms", T07 and T08. */
public final class P13StepTest {
    public static void main(String[] args) {
        Edge.of("1 DONE, 0 it WAITS, 2 ENDED, 3 FAILED, 4 it LACKS something", P13StepTest::answers);
        Edge.of("(2, 3, 4 also if it was so; there is no RUN: 2)", P13StepTest::ifItWasSo);
        Edge.of("(2, 3, 4 also if it was so; there is no RUN: 2)", P13StepTest::noRun);
        Edge.of("The STEP with which it comes to the end is 1, that with which it FAILS by CAUSE 1 is DONE and 3", P13StepTest::lastStep);
        Edge.of("IndexOutOfBoundsException: no such PARTY", P13StepTest::noSuchParty);
        Edge.of("IllegalStateException (asked behind that, ahead of how it stands): 30000 STEPS have been DONE in all", P13StepTest::thirtyThousand);
        Edge.of("IllegalStateException (asked behind that, ahead of how it stands): 30000 STEPS have been DONE in all", P13StepTest::aheadOfHowItStands);
        Edge.end();
    }

    private static void answers() {
        Desk d = new Desk().starts("b=1;a:n;n!;").due("step 0", 1).due("step 0", 1).due("step 0", 0).due("step 0", 0).due("step 1", 1);
        d.due("step 1", 1).due("step 1", 0).due("deliver 1 0", 1).due("step 0", 1).due("step 0", 4).due("party 0 1", 3).due("total 2", 5);
        Desk failed = new Desk().starts("a:n;>a;").due("tamper 0 0 0 1", 1).due("run 9", 18).due("step 0", 3).due("step 1", 3);
        failed.due("total 2", 20);
        new Desk().starts("a=1;").due("step 0", 1).due("step 0", 2);
    }

    private static void ifItWasSo() {
        Desk d = new Desk().starts("a=1;").due("step 0", 1).all("step", 2, "0", "0", "0").due("party 0 1", 1).due("total 2", 1);
        d.starts("n!;").all("step", 4, "0", "0", "0").due("deal -3 1", 1).all("step", 4, "0", "0").due("party 0 1", 0).due("total 2", 1);
        d.starts("a:n;>a;").due("tamper 0 0 0 1", 1).due("run 10", 20).all("step", 3, "0", "0", "1", "1").due("total 2", 21);
    }

    private static void noRun() {
        Desk d = new Desk();
        d.due("step 0", 2).due("step 1", 2).tape("a=1;").due("compile", 12).due("step 0", 2).due("begin", 1).due("step 0", 1);
        d.due("compile", 1).due("step 1", 2).due("hall 4 0 1", 1).each(4, "step", "", 2).due("total 2", 1);
    }

    private static void lastStep() {
        Desk d = new Desk().starts("a=1;b=2;").due("step 0", 1).due("party 0 0", 1).due("step 0", 1).due("party 0 0", 2).due("step 0", 2);
        d.due("party 0 1", 2);
        Desk failed = new Desk().ready(2, "a:n;>a;").due("tamper 1 0 0 9", 1).due("run 9", 18).due("party 0 1", 9).due("step 0", 3);
        failed.due("party 0 1", 10).due("total 2", 19).due("party 0 3", 5).due("deliver 0 1", 1).due("step 1", 3).due("party 1 1", 9);
        failed.due("total 2", 19).due("party 1 9", 2);
    }

    private static void noSuchParty() {
        Desk d = new Desk();
        String[] wrong = {"2", "3", "4", "-1", "2147483647", "-2147483648"};
        d.all("step", Desk.INDEX, wrong).starts("a=1;").all("step", Desk.INDEX, wrong).due("total 2", 0).due("step 1", 1);
        d.due("hall 3 0 1", 1).due("step 2", 2).due("step 3", Desk.INDEX).due("hall 4 0 1", 1).due("step 3", 2).due("step 4", Desk.INDEX);
    }

    private static void thirtyThousand() {
        Desk d = P15RunTest.done(29998).due("step 0", 1).due("total 2", 29999).due("step 1", 1).due("total 2", 30000);
        d.due("step 0", Desk.STATE).due("step 1", Desk.STATE).due("total 2", 30000).due("party 0 1", 15000).due("party 1 1", 15000);
        d.due("begin", 1).due("step 0", Desk.STATE).due("hall 3 0 1", 1).due("step 2", Desk.STATE).due("total 2", 30000);
        Desk inAll = P15RunTest.done(29998).starts("a=1;").due("step 0", 1).due("hall 2 0 1", 1).starts("a=1;").due("step 1", 1);
        inAll.due("step 0", Desk.STATE).due("party 0 0", 1).due("party 0 1", 0);
    }

    private static void aheadOfHowItStands() {
        Desk d = P15RunTest.done(29998).starts("a=1;").due("step 0", 1).due("step 0", 2).due("step 1", 1).due("total 2", 30000);
        d.all("step", Desk.STATE, "0", "1").all("step", Desk.INDEX, "2", "-1", "2147483647").due("compile", 1).due("step 0", Desk.STATE);
        d.due("step 2", Desk.INDEX).due("hall 2 0 1", 1).due("step 0", Desk.STATE).due("step 2", Desk.INDEX);
        Desk waits = P15RunTest.done(29998).starts("a:n;").due("step 0", 1).due("step 0", 0).due("step 1", 1).due("step 0", Desk.STATE);
        waits.due("begin", 1).due("step 0", Desk.STATE);
    }
}
