/** Promise 16: what is asked of a party. */
public final class P16PartyTest {
    public static void main(String[] args) {
        Edge.of("Of a PARTY, what 0: 1 it goes on, 2 it has ENDED, 3 FAILED, 4 a step() has found that it LACKS something",
            P16PartyTest::standings);
        Edge.of("(that stays so in this RUN, whatever is dealt and given then)", P16PartyTest::staysLacking);
        Edge.of("1: STEPS DONE in this RUN, 2: SENDS (all), 3: RECEIVES (all), 4: how many it has put out", P16PartyTest::counts);
        Edge.of("5: MASKS, 6: inputs that it has", P16PartyTest::masksAndInputs);
        Edge.of("7: what it LACKS (else 0)", P16PartyTest::whatItLacks);
        Edge.of("8: CHECKS it has been through (with the one by which it FAILED), 9: the CAUSE (0 without)", P16PartyTest::checks);
        Edge.of("10 + j: MAILS (and NOTICES) on its WIRE to PARTY j", P16PartyTest::onWires);
        Edge.of("20 + j: MAILS (without NOTICES) delivered from PARTY j that it has not taken", P16PartyTest::delivered);
        Edge.of("30: places that are KEPT", P16PartyTest::kept);
        Edge.of("Without a RUN 2 of 0, and 0 of 1 to 4, 7 to 9, and from 10 on", P16PartyTest::withoutARun);
        Edge.of("NONE if there is no such PARTY (or PARTY j; of j itself 0), or for another what", P16PartyTest::noSuchParty);
        Edge.of("NONE if there is no such PARTY (or PARTY j; of j itself 0), or for another what", P16PartyTest::ofItself);
        Edge.of("NONE if there is no such PARTY (or PARTY j; of j itself 0), or for another what", P16PartyTest::anotherWhat);
        Edge.end();
    }

    private static void standings() {
        Desk d = new Desk().starts("n!;").each(2, "party", " 0", 1).due("party 0 7", 0).due("step 0", 4).due("party 0 0", 4).due("party 1 0", 1);
        d.due("deal -3 1", 1).due("step 1", 1).due("party 1 0", 2).due("party 0 0", 4);
        Desk failed = new Desk().ready(2, "a:n;>a;").due("tamper 0 0 0 1", 1).due("run 9", 18).each(2, "party", " 0", 1).due("step 0", 3);
        failed.due("party 0 0", 3).due("party 1 0", 1).due("run 9", 1).due("party 1 0", 3);
        Desk found = new Desk().starts("n!;").due("run 1", 0).each(2, "party", " 0", 4).each(2, "party", " 7", 6);
        found.due("begin", 1).each(2, "party", " 0", 1);
    }

    private static void staysLacking() {
        Desk d = new Desk().starts("n<0;n!;");
        d.due("step 0", 4).due("give 0 1", 1).due("deal 0 1", 1).due("party 0 0", 4).due("party 0 7", 1).due("step 0", 4).due("run 9", 0);
        d.due("party 0 7", 1).due("begin", 1).due("party 0 0", 1).due("party 0 7", 0).due("run 9", 3).each(2, "party", " 7", 6);
        d.due("deal -3 3", 3).each(2, "party", " 0", 4).each(2, "step", "", 4).each(2, "party", " 7", 6);
    }

    private static void counts() {
        Desk d = new Desk().ready(2, "n<0;@1;@1[o=n*n;@2;]@2[>o;>n;]");
        d.due("give 0 5", 1).due("party 0 0", 1);
        d.due("run 2", 3).due("party 0 1", 2).due("party 1 1", 1).due("party 0 2", 1).due("party 0 3", 1).due("party 1 2", 0);
        d.due("run 1", 2).due("party 0 30", 1).runs();
        d.each(2, "party", " 0", 2).each(2, "party", " 7", 0).each(2, "party", " 4", 2).each(2, "party", " 8", 3);
        d.each(2, "party", " 9", 0).due("party 0 2", 1 + 1 + 4 + 1 + 4 + 1 + 4).due("party 1 2", 15).due("party 0 3", 16);
        d.due("party 1 3", 16).each(2, "party", " 30", 0);
        Desk waits = new Desk().starts("a:n;").due("step 0", 1).all("step", 0, "0", "0").due("party 0 1", 1).due("party 0 2", 1).due("party 0 3", 0);
        waits.due("begin", 1).due("party 0 1", 0).due("party 0 2", 0);
    }

    private static void masksAndInputs() {
        Desk d = new Desk();
        d.each(2, "party", " 5", 0).each(2, "party", " 6", 0).due("deal 1 200", 200).due("party 1 5", 200).due("party 0 5", 0);
        for (int i = 0; i < 100; i++) {
            d.due("give 1 1", 1);
        }
        d.due("party 1 6", 100).due("party 0 6", 0).starts("n<1;").due("step 1", 1).due("party 1 5", 199).due("party 1 6", 99);
        d.due("compile", 1).due("party 1 5", 199).due("party 1 6", 99).due("begin", 1).due("party 1 5", 199).due("party 1 6", 99);
    }

    private static void whatItLacks() {
        String[] texts = {"n<0;", "n<0;", "n=n*o;", "n=n^;", "A[16]=1;", "n!;", "@1;@1[@1;]"};
        for (int i = 0; i < texts.length; i++) {
            Desk d = new Desk();
            if (i == 1) {
                d.due("give 0 1", 1);
            }
            d.starts(texts[i]).each(2, "party", " 7", 0).runs().due("party 0 7", i + 1).due("party 0 0", 4);
            d.due("party 1 7", i < 2 ? 0 : i + 1).due("begin", 1).each(2, "party", " 7", 0);
        }
    }

    private static void checks() {
        Desk d = new Desk().ready(2, "a:n;>a;b:n;>b;c:n;>c;").due("tamper 0 2 0 1", 1).due("run 9", 18).each(2, "party", " 8", 0);
        d.due("step 0", 1).due("party 0 8", 1).due("party 1 8", 0).due("step 1", 1).due("party 1 8", 1).due("run 11", 22).each(2, "party", " 8", 2);
        d.each(2, "party", " 9", 0).runs().each(2, "party", " 8", 3).each(2, "party", " 9", 1).each(2, "party", " 4", 2);
        Desk notice = new Desk().ready(2, "a:n;>a;").due("tamper 0 0 0 1", 1).due("run 9", 18).due("step 0", 3).due("deliver 0 1", 1);
        notice.due("party 1 9", 0).due("step 1", 3).due("party 1 9", 2).due("party 1 8", 0).due("party 0 8", 1).due("party 0 9", 1);
    }

    private static void onWires() {
        Desk d = new Desk().ready(4, "n<2;o<2;a:n;");
        d.due("give 2 5", 1).due("give 2 6", 1).all("step", 1, "2", "2", "2");
        for (int j = 0; j < 4; j++) {
            d.due("party 2 1" + j, j == 2 ? 0 : 2).due("party 0 1" + j, 0).due("party " + j + " 22", 0);
        }
        d.due("deliver 2 3", 1).due("party 2 13", 1).due("deliver 2 3", 1).due("party 2 13", 0).due("party 2 10", 2).due("party 2 11", 2);
        Desk notice = new Desk().ready(3, "a:n;>a;").due("tamper 0 0 0 1", 1).due("run 9", 27).due("step 1", 3).due("party 1 10", 1);
        notice.due("party 1 12", 1).due("party 1 11", 0).due("deliver 1 2", 1).due("party 1 12", 0).due("party 1 10", 1);
    }

    private static void delivered() {
        Desk d = new Desk().ready(4, "n<2;o<2;a:n;");
        d.due("give 2 5", 1).due("give 2 6", 1).all("step", 1, "2", "2", "2").due("party 3 22", 0).due("deliver 2 3", 1).due("party 3 22", 1);
        d.due("deliver 2 3", 1).due("party 3 22", 2).due("party 2 23", 0).due("step 3", 1).due("party 3 22", 1).due("step 3", 1).due("party 3 22", 0);
        Desk notice = new Desk().ready(2, "a:n;>a;").due("tamper 0 0 0 1", 1).due("run 9", 18).due("party 1 20", 1).due("step 0", 3);
        notice.due("deliver 0 1", 1).due("party 1 20", 1).due("step 1", 3).due("party 1 20", 1);
    }

    private static void kept() {
        Desk d = new Desk().starts("@1;@1[@2;]@2[a=1;]").each(2, "party", " 30", 0).due("step 0", 1).due("party 0 30", 1).due("party 1 30", 0);
        d.due("step 0", 1).due("party 0 30", 2).due("step 0", 1).due("party 0 30", 2).due("step 0", 1).due("party 0 30", 1);
        d.due("step 0", 1).due("party 0 30", 0).due("run 2000", 6 + 2 + 1).due("party 0 0", 2);
    }

    private static void withoutARun() {
        Desk d = new Desk();
        d.due("deal 1 4", 4).due("give 1 9", 1).due("give 1 9", 1);
        for (int what = 0; what < 10; what++) {
            d.due("party 1 " + what, what == 0 ? 2 : what == 5 ? 4 : what == 6 ? 2 : 0);
        }
        d.each(2, "party", " 10", 0).each(2, "party", " 11", 0).each(2, "party", " 20", 0).each(2, "party", " 21", 0).each(2, "party", " 30", 0);
        Desk left = new Desk().ready(2, "@1;@1[a:n;>a;b:n;]").due("run 12", 24).due("step 0", 1).due("step 1", 1).due("deliver 1 0", 1);
        left.due("party 0 11", 1).due("party 0 21", 1).due("party 0 30", 1).due("party 0 8", 1).due("party 0 4", 1).due("compile", 1);
        for (int what : new int[] {1, 2, 3, 4, 7, 8, 9, 10, 11, 20, 21, 30}) {
            left.each(2, "party", " " + what, 0);
        }
        left.each(2, "party", " 0", 2).each(2, "party", " 5", 100);
        Desk lacks = new Desk().starts("n!;").due("step 0", 4).loads(1, 0).due("party 0 0", 2).due("party 0 7", 0);
        Desk failed = new Desk().starts("a:n;>a;").due("tamper 0 0 0 1", 1).due("run 99", 20).due("hall 2 0 1", 1).due("party 0 9", 0);
        failed.due("party 0 0", 2);
        lacks.due("party 0 30", 0);
    }

    private static void noSuchParty() {
        Desk d = new Desk().ready(3, "a:n;");
        for (String party : new String[] {"3", "-1", "4", "2147483647", "-2147483648"}) {
            for (String what : new String[] {"0", "1", "5", "6", "10", "20", "30", "99"}) {
                d.due("party " + party + " " + what, -1);
            }
        }
        d.all("party 0", -1, "13", "14", "19", "23", "24", "29").all("party 0", 0, "12", "22").due("compile", 1).all("party 2", -1, "13", "23");
        new Desk().all("party 0", -1, "12", "22", "13", "23").all("party 0", 0, "11", "21").due("party 2 5", -1);
        new Desk().due("hall 4 0 1", 1).all("party 0", -1, "14", "24").all("party 0", 0, "13", "23");
    }

    private static void ofItself() {
        Desk d = new Desk().ready(3, "a:n;").each(3, "step", "", 1).due("deliver 0 1", 1);
        for (int i = 0; i < 3; i++) {
            d.due("party " + i + " " + (10 + i), 0).due("party " + i + " " + (20 + i), 0);
        }
        d.due("compile", 1).due("party 2 12", 0).due("party 2 22", 0);
    }

    private static void anotherWhat() {
        Desk d = new Desk();
        String[] wrong = {"-1", "-10", "14", "15", "19", "24", "29", "31", "32", "33", "40", "100", "2147483647", "-2147483648"};
        d.all("party 0", -1, wrong).due("hall 4 0 1", 1).starts("a:n;").all("party 3", -1, wrong);
    }
}
