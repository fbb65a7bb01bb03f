/** Promise 18: clear variables and places of clear arrays. */
public final class P18ClearTest {
    public static void main(String[] args) {
        Desk d = new Desk();
        d.due("clear 0 0", Desk.ELEMENT).due("clear 0 100", Desk.ELEMENT);
        d.ready(2, "a=1;m=2-3;A[0]=4;A[15]=5;B[0]=6;D[15]=7;C[1]=8;n=9;E[0]=9;");
        d.due("clear 0 0", 0).due("clear 1 163", 0).due("step 0", 1).due("clear 0 0", 1).due("clear 1 0", 0);
        d.ask("run 2000");
        d.each(2, "clear", " 0", 1).each(2, "clear", " 12", Desk.P - 1).each(2, "clear", " 1", 0);
        d.each(2, "clear", " 100", 4).each(2, "clear", " 115", 5).each(2, "clear", " 116", 6);
        d.each(2, "clear", " 163", 7).each(2, "clear", " 133", 8).each(2, "clear", " 101", 0);
        for (String none : new String[] {"0 -1", "0 13", "0 99", "0 164", "0 2147483647", "0 -2147483648", "2 0", "-1 0",
            "2 100", "2147483647 0"}) {
            d.due("clear " + none, Desk.ELEMENT);
        }
        d.due("begin", 1).due("clear 0 0", 0).due("clear 0 100", 0).due("compile", 1).due("clear 0 0", Desk.ELEMENT);
        modulo();
        Desk.end();
    }

    /** All is reckoned modulo P. */
    private static void modulo() {
        Desk d = new Desk();
        d.tape("a=999999999999999999;b=a*a;c=a^^;d=-a;e=0-0;f=-0;g=a-a;h=(0-1)*(0-1);i=(0-1)^;j=(0-1)+(0-1);");
        d.ask("compile");
        d.due("begin", 1);
        d.ask("run 2000");
        java.math.BigInteger p = java.math.BigInteger.valueOf(Desk.P);
        java.math.BigInteger a = java.math.BigInteger.valueOf(999999999999999999L);
        d.due("clear 0 1", a.multiply(a).mod(p)).due("clear 0 2", a.pow(4).mod(p)).due("clear 0 3", a.negate().mod(p));
        d.due("clear 0 4", 0).due("clear 0 5", 0).due("clear 0 6", 0).due("clear 0 7", 1).due("clear 0 8", 1);
        d.due("clear 0 9", Desk.P - 2);
    }
}
