/** Promise 4: a new hall, and what stays and what is no more. */
public final class P04HallTest {
    public static void main(String[] args) {
        Edge.of("for other numbers (PARTIES 2 .. 4, BOUND 1 .. 4)", P04HallTest::allThatMayBe);
        Edge.of("for other numbers (PARTIES 2 .. 4, BOUND 1 .. 4)", P04HallTest::otherNumbers);
        Edge.of("A new HALL (what was dealt, given, the CODE and the RUN are no more", P04HallTest::whatIsNoMore);
        Edge.of("A new HALL (what was dealt, given, the CODE and the RUN are no more", P04HallTest::limitsBeginAnew);
        Edge.of("A new HALL (what was dealt, given, the CODE and the RUN are no more", P04HallTest::partiesThatComeBack);
        Edge.of("the TAPE and what is put together stay", P04HallTest::whatStays);
        Edge.of("true; false, changing nothing", P04HallTest::falseChangesNothing);
        Edge.of("or if there were 300 made so", P04HallTest::threeHundred);
        Edge.end();
    }

    private static void allThatMayBe() {
        Desk d = new Desk();
        for (int parties = 2; parties <= 4; parties++) {
            for (int bound = 1; bound <= 4; bound++) {
                d.due("hall " + parties + " " + (parties - bound) + " " + bound, 1).due("total 0", parties).due("total 5", bound);
                d.due("party " + (parties - 1) + " 0", 2).due("party " + parties + " 0", -1);
            }
        }
        d.due("hall 4 " + Long.MIN_VALUE + " 1", 1).due("hall 2 " + Long.MAX_VALUE + " 1", 1);
    }

    private static void otherNumbers() {
        Desk d = new Desk();
        d.due("hall 3 5 4", 1);
        for (String wrong : new String[] {"1 0 1", "0 0 1", "-1 0 1", "5 0 1", "2 0 0", "2 0 -1", "2 0 5", "4 0 5", "-2147483648 0 1",
            "2147483647 0 1", "2 0 -2147483648", "2 0 2147483647", "0 0 0", "1 0 5"}) {
            d.due("hall " + wrong, 0).due("total 0", 3).due("total 5", 4);
        }
    }

    private static void whatIsNoMore() {
        Desk d = new Desk().ready(2, "n!;n<0;a:n;>a;");
        d.due("give 0 5", 1).due("give 1 6", 1).due("run 3", 5).due("total 6", 99).due("party 0 5", 99).due("party 1 1", 2);
        d.due("tamper 0 9 0 1", 1).due("hall 2 77 1", 1);
        d.due("total 1", 0).due("total 4", 0).due("total 6", 0).each(2, "party", " 5", 0).each(2, "party", " 6", 0);
        d.due("total 3", 0).due("code 0", -1).due("begin", 0).due("total 2", 5).each(2, "party", " 0", 2).each(2, "party", " 1", 0);
        d.due("step 0", 2).due("clear 0 0", Desk.ELEMENT).due("output 0 0", Desk.ELEMENT).due("bound 0 0 0", Desk.ELEMENT);
        d.due("deliver 0 1", 0).due("tamper 0 9 0 1", 0).due("run 9", 0);
    }

    private static void limitsBeginAnew() {
        Desk d = new Desk();
        d.due("deal 0 200", 200).due("deal -1 200", 200).due("deal -3 200", 200).due("deal 0 1", Desk.ARGUMENT);
        for (int i = 0; i < 100; i++) {
            d.due("give 0 7", 1);
        }
        d.due("give 0 7", 0).due("hall 2 0 1", 1).due("deal 0 200", 200).due("deal -1 200", 200).due("deal -3 200", 200);
        d.due("give 0 8", 1).due("party 0 6", 1).starts("n<0;a:n;").runs().clears(1, 8);
    }

    /** What parties had that a smaller hall did not have is no more in the next one. */
    private static void partiesThatComeBack() {
        Desk d = new Desk().ready(4, "n<3;o!;p=o*o;p=o^;a:n;>a;");
        d.due("give 3 5", 1).due("give 3 6", 1).due("give 2 7", 1).runs().each(4, "party", " 0", 2);
        d.due("hall 2 77 2", 1).starts(">a;").runs().due("hall 4 77 2", 1);
        for (int party = 0; party < 4; party++) {
            for (int what = 1; what < 10; what++) {
                d.due("party " + party + " " + what, 0);
            }
        }
        d.due("deal -1 1", 1).due("deal -2 1", 1).due("deal -3 1", 1).due("deal 3 1", 1).due("give 3 9", 1);
        d.starts("n<3;o!;p=o*o;p=o^;a:n;>a;").runs().each(4, "output", " 0", 9).each(4, "party", " 8", 1);
    }

    private static void whatStays() {
        Desk d = new Desk();
        d.tape("n<2;").bytes(13, 0, 3).due("hall 4 0 1", 1).due("hall 9 0 1", 0).bytes(0).due("load", 2).due("compile", 4);
        d.tape(">").due("hall 2 0 1", 1).tape("a;").due("compile", 3).due("total 3", 3);
    }

    private static void falseChangesNothing() {
        Desk d = new Desk().ready(3, "n<0;>n;");
        d.due("give 0 9", 1).due("step 0", 1).due("hall 5 0 1", 0).due("hall 3 0 9", 0).due("total 3", 6).due("party 0 11", 1);
        d.due("party 0 5", 99).due("total 1", 100).due("run 2000", 36).each(3, "output", " 0", 9);
    }

    /** Those that were refused do not count, nor does the one that a new object has. */
    private static void threeHundred() {
        Desk d = new Desk();
        for (int i = 0; i < 300; i++) {
            if (i % 50 == 0) {
                d.due("hall 9 9 9", 0);
            }
            d.due("hall " + (2 + i % 3) + " " + i + " 2", 1);
        }
        d.due("deal 0 7", 7).starts(">a;").due("step 0", 1).due("hall 2 0 1", 0).due("hall 4 299 2", 0).due("hall 9 9 9", 0);
        d.due("total 0", 4).due("total 5", 2).due("party 0 5", 7).due("total 3", 3).due("party 0 4", 1).due("party 0 1", 1);
    }
}
