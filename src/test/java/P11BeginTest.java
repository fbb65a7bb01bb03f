/** Promise 11: a run begins, and what of the one before is no more. */
public final class P11BeginTest {
    public static void main(String[] args) {
        Desk d = new Desk();
        d.due("begin", 0).due("party 0 0", 2).due("compile", 1).due("begin", 1).due("party 0 0", 2).due("begin", 1);
        d.due("step 0", 2).due("party 0 1", 0).due("total 2", 0);
        forgets();
        stocksAreEven();
        inputsGoOn();
        errorsAreGone();
        startsAtZero();
        pileIsEmpty();
        noticesAreGone();
        Desk.end();
    }

    private static void forgets() {
        Desk d = new Desk().ready(2, "a=5;A[2]=6;@1;@1[b:n;>a;o=n*n;o=n*n;]");
        d.due("run 2000", 44).due("party 0 4", 1).due("party 0 30", 0).due("clear 0 0", 5).due("clear 1 102", 6);
        d.due("begin", 1).due("run 4", 8).due("party 0 30", 1).due("party 0 11", 0).due("party 0 21", 1);
        d.due("begin", 1).each(2, "party", " 0", 1).due("bound 0 0 0", Desk.ELEMENT);
        for (int what : new int[] {1, 2, 3, 4, 7, 8, 9, 10, 11, 20, 21, 30}) {
            d.each(2, "party", " " + what, 0);
        }
        d.due("clear 0 0", 0).due("clear 1 102", 0).due("output 0 0", Desk.ELEMENT).due("total 2", 52);
        d.due("step 0", 1).due("clear 0 0", 5).due("run 2000", 43).due("output 0 0", 5);
        Desk wire = new Desk().ready(2, "a:n;");
        wire.due("step 0", 1).due("party 0 11", 1).due("begin", 1).due("party 0 11", 0).due("deliver 0 1", 0);
        wire.due("step 1", 1).due("deliver 1 0", 1).due("begin", 1).due("party 0 21", 0).due("step 0", 1).due("step 0", 0);
    }

    /** What one party took is no more for the others either. */
    private static void stocksAreEven() {
        Desk d = new Desk();
        d.due("deal -1 2", 2).due("deal -2 2", 2).due("deal -3 2", 2);
        d.tape("n!;o=n^;p=n*n;").due("compile", 15).due("begin", 1).due("step 0", 1).due("step 0", 1);
        d.due("total 6", 2).due("total 4", 2).due("begin", 1).due("total 6", 1).due("total 4", 1).due("total 1", 2);
        d.due("run 2000", 14).each(2, "party", " 0", 2).due("total 6", 0).due("total 4", 0).due("total 1", 1);
        d.due("begin", 1).due("run 2000", 0).each(2, "party", " 7", 6);
    }

    private static void inputsGoOn() {
        Desk d = new Desk().ready(2, "n<0;>n;");
        d.due("give 0 5", 1).due("give 0 6", 1).due("step 0", 1).due("begin", 1).due("party 0 6", 1).due("party 0 5", 99);
        d.ask("run 2000");
        d.each(2, "output", " 0", 6).due("begin", 1).due("run 2000", 0).due("party 0 7", 1).due("party 1 0", 1);
    }

    private static void errorsAreGone() {
        Desk d = new Desk().ready(2, "a:n;>a;");
        d.due("tamper 0 0 0 5", 1).due("begin", 1).due("run 2000", 22).due("output 0 0", 0).each(2, "party", " 0", 2);
        d.due("begin", 1).due("tamper 0 0 0 5", 1).due("run 2000", 20).each(2, "party", " 0", 3);
        d.due("begin", 1).due("party 0 9", 0).due("run 2000", 22).each(2, "party", " 0", 2);
    }

    private static void startsAtZero() {
        Desk d = new Desk().ready(2, "n=n+1;E[0]=E[0]+n;a=a+1;p=E[0];>n;>p;>a;");
        for (int i = 0; i < 2; i++) {
            d.due("begin", 1);
            d.ask("run 2000");
            d.each(2, "output", " 0", 1).each(2, "output", " 1", 1).each(2, "output", " 2", 1);
        }
    }

    /** Runs that are left amid an expression leave nothing on the pile. */
    private static void pileIsEmpty() {
        Desk d = new Desk().ready(2, "a=1+(2+(3+(4+(5+(6+(7+(8+9)))))));@1;@1[@2;]@2[b=a;]");
        for (int i = 0; i < 80; i++) {
            d.due("step 0", 1).due("begin", 1);
        }
        d.ask("run 2000");
        d.each(2, "clear", " 0", 45).each(2, "clear", " 1", 45).each(2, "party", " 0", 2).each(2, "party", " 30", 0);
    }

    private static void noticesAreGone() {
        Desk d = new Desk().ready(3, "a:n;>a;");
        d.due("tamper 0 0 0 1", 1).due("run 9", 27).due("step 1", 3).due("step 0", 3).due("deliver 0 2", 1);
        d.due("party 1 10", 1).due("party 1 12", 1).due("party 0 12", 0).due("begin", 1).due("party 1 10", 0);
        d.due("party 1 12", 0).due("deliver 1 0", 0).due("step 2", 1).due("run 2000", 32).each(3, "party", " 9", 0);
    }
}
