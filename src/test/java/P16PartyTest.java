/** Promise 16: what is asked of a party. */
public final class P16PartyTest {
    public static void main(String[] args) {
        noRun();
        otherNumbers();
        counts();
        mails();
        mailsWithoutRun();
        Desk.end();
    }

    private static void noRun() {
        Desk d = new Desk();
        d.due("deal 1 4", 4).due("give 1 9", 1).due("give 1 9", 1);
        for (int what = 0; what < 10; what++) {
            d.due("party 1 " + what, what == 0 ? 2 : what == 5 ? 4 : what == 6 ? 2 : 0);
        }
        for (int j = 0; j < 2; j++) {
            d.due("party 0 " + (10 + j), 0).due("party 0 " + (20 + j), 0).due("party 1 30", 0);
        }
        d.due("compile", 1).due("party 0 0", 2);
    }

    private static void otherNumbers() {
        Desk d = new Desk().ready(3, "a:n;");
        for (String what : new String[] {"-1", "13", "14", "19", "23", "24", "29", "31", "40", "100", "2147483647",
            "-2147483648"}) {
            d.due("party 0 " + what, -1);
        }
        for (String party : new String[] {"3", "-1", "4", "2147483647", "-2147483648"}) {
            d.due("party " + party + " 0", -1).due("party " + party + " 5", -1).due("party " + party + " 10", -1);
        }
        for (int i = 0; i < 3; i++) {
            d.due("party " + i + " " + (10 + i), 0).due("party " + i + " " + (20 + i), 0);
        }
        Desk without = new Desk();
        without.due("party 0 12", -1).due("party 0 22", -1).due("party 0 13", -1).due("party 0 31", -1).due("party 2 5", -1);
    }

    private static void counts() {
        Desk d = new Desk().ready(2, "n<0;@1;@1[o=n*n;@2;]@2[>o;>n;]");
        d.due("give 0 5", 1).due("party 0 0", 1);
        d.due("run 2", 3).due("party 0 1", 2).due("party 1 1", 1).due("party 0 2", 1).due("party 0 3", 1).due("party 1 2", 0);
        d.due("party 0 5", 99).due("party 0 6", 0).due("party 1 5", 100).due("run 1", 2).due("party 0 30", 1);
        d.ask("run 2000");
        d.each(2, "party", " 0", 2).each(2, "party", " 7", 0).each(2, "party", " 4", 2).each(2, "party", " 8", 3);
        d.each(2, "party", " 9", 0).due("party 0 2", 1 + 1 + 4 + 1 + 4 + 1 + 4).due("party 1 2", 15).due("party 0 3", 16);
        d.due("party 1 3", 16).each(2, "party", " 30", 0);
    }

    private static void mails() {
        Desk d = new Desk().ready(4, "n<2;o<2;a:n;");
        d.due("give 2 5", 1).due("give 2 6", 1);
        d.due("step 2", 1).due("step 2", 1).due("step 2", 1);
        for (int j = 0; j < 4; j++) {
            d.due("party 2 1" + j, j == 2 ? 0 : 2).due("party 0 1" + j, 0).due("party " + j + " 22", 0);
        }
        d.due("deliver 2 3", 1).due("party 2 13", 1).due("party 3 22", 1).due("deliver 2 3", 1).due("party 3 22", 2);
        d.due("step 3", 1).due("party 3 22", 1).due("party 2 13", 0).due("party 2 10", 2).due("party 2 23", 0);
    }

    private static void mailsWithoutRun() {
        Desk d = new Desk().ready(2, "@1;@1[a:n;]");
        d.due("step 0", 1).due("step 0", 1).due("step 1", 1).due("step 1", 1).due("deliver 1 0", 1);
        d.due("party 0 11", 1).due("party 0 21", 1).due("party 0 30", 1).due("compile", 1);
        d.due("party 0 11", 0).due("party 0 21", 0).due("party 0 30", 0).due("party 0 1", 0).due("party 0 2", 0);
        d.due("deliver 0 1", 0).due("tamper 0 5 0 1", 0).due("run 5", 0);
    }
}
