/** Promise 5: what a program becomes; its faults are with promise 7. */
public final class P05CompileTest {
    public static void main(String[] args) {
        statements();
        expressions();
        blocks();
        routines();
        blanks();
        whatStays();
        longest();
        Desk.end();
    }

    private static void statements() {
        Desk d = new Desk();
        d.compiles("", 0);
        d.compiles("n<0;z<1;", 13, 0, 0, 13, 12, 1, 0);
        d.compiles("a:z;m:n;", 14, 0, 12, 14, 12, 0, 0);
        d.compiles("n!;z!;", 27, 0, 27, 12, 0);
        d.compiles(">a;>m;>n;>z;", 15, 0, 15, 12, 16, 0, 16, 12, 0);
        d.compiles("a=m;n=m;n=z;", 2, 12, 11, 0, 2, 12, 12, 0, 3, 12, 12, 0, 0);
        d.compiles("A=B+C;D=A-A;E=F*G;H=A*E;", 23, 0, 1, 2, 24, 3, 0, 0, 25, 4, 5, 6, 25, 7, 0, 4, 0);
        d.compiles("n=A.B;z=H.E;", 26, 0, 1, 12, 0, 26, 7, 4, 12, 12, 0);
        d.compiles("A[a]=b;D[m]=m;E[a]=b;H[a]=n;", 2, 0, 2, 1, 21, 0, 2, 12, 2, 12, 21, 3,
            2, 0, 2, 1, 22, 0, 2, 0, 3, 0, 22, 3, 0);
    }

    private static void expressions() {
        Desk d = new Desk();
        d.compiles("a=258;", 1, 0, 0, 0, 0, 0, 0, 1, 2, 11, 0, 0);
        d.compiles("a=999999999999999999;", 1, 0x0d, 0xe0, 0xb6, 0xb3, 0xa7, 0x63, 0xff, 0xff, 11, 0, 0);
        d.compiles("a=000000000000000001;", 1, 0, 0, 0, 0, 0, 0, 0, 1, 11, 0, 0);
        d.compiles("a=a+b-c*d;", 2, 0, 2, 1, 4, 2, 2, 2, 3, 6, 5, 11, 0, 0);
        d.compiles("a=a*b*c;", 2, 0, 2, 1, 6, 2, 2, 6, 11, 0, 0);
        d.compiles("n=a*n;n=n*a;n=n*o;n=a*b;", 2, 0, 3, 0, 6, 12, 0, 3, 0, 2, 0, 6, 12, 0,
            3, 0, 3, 1, 7, 12, 0, 2, 0, 2, 1, 6, 12, 0, 0);
        d.compiles("n=(a+n)*(o-b);", 2, 0, 3, 0, 4, 3, 1, 2, 1, 5, 7, 12, 0, 0);
        d.compiles("n=a*b*n*o;", 2, 0, 2, 1, 6, 3, 0, 6, 3, 1, 7, 12, 0, 0);
        d.compiles("a=-a^;", 2, 0, 9, 8, 11, 0, 0);
        d.compiles("n=-n^^;", 3, 0, 10, 10, 8, 12, 0, 0);
        d.compiles("n=(-n)^;n=(a)^;", 3, 0, 8, 10, 12, 0, 2, 0, 9, 12, 0, 0);
        d.compiles("a=--a--b;", 2, 0, 8, 8, 2, 1, 8, 5, 11, 0, 0);
        d.compiles("a=a*-b;", 2, 0, 2, 1, 8, 6, 11, 0, 0);
        d.compiles("a=A[b]^;n=E[A[a]]*F[b];", 2, 1, 19, 0, 9, 11, 0, 2, 0, 19, 0, 20, 0, 2, 1, 20, 1, 7, 12, 0, 0);
    }

    private static void blocks() {
        Desk d = new Desk();
        d.compiles("?a[>a;|>b;>c;]", 17, 0, 0, 9, 15, 0, 18, 0, 13, 15, 1, 15, 2, 0);
        d.compiles("?m[|]", 17, 12, 0, 7, 18, 0, 7, 0);
        d.compiles("*b[>b;]>c;", 17, 1, 0, 9, 15, 1, 18, 0, 0, 15, 2, 0);
        d.compiles("*a[*b[]]", 17, 0, 0, 14, 17, 1, 0, 11, 18, 0, 4, 18, 0, 0, 0);
        d.compiles("?a[?b[|>a;]|*c[]]", 17, 0, 0, 16, 17, 1, 0, 11, 18, 0, 13, 15, 0, 18, 0, 23,
            17, 2, 0, 23, 18, 0, 16, 0);
    }

    private static void routines() {
        Desk d = new Desk();
        d.compiles("@3[>a;]@3;", 18, 0, 6, 15, 0, 29, 28, 0, 3, 0);
        d.compiles("@9;?a[@9;|]@9[@9;]", 28, 0, 16, 17, 0, 0, 13, 28, 0, 16, 18, 0, 13, 18, 0, 20, 28, 0, 16, 29, 0);
        d.compiles("@0[]@1[]@1;@0;", 18, 0, 4, 29, 18, 0, 8, 29, 28, 0, 7, 28, 0, 3, 0);
        Desk far = new Desk();
        StringBuilder text = new StringBuilder("@1;");
        for (int i = 0; i < 30; i++) {
            text.append("a=1;");
        }
        far.tape(text + "@1[]@1;").due("compile", 3 + 330 + 4 + 3 + 1);
        far.due("code 0", 28).due("code 1", 1).due("code 2", 80).due("code 338", 1).due("code 339", 80);
    }

    private static void blanks() {
        Desk d = new Desk();
        d.compiles("   ", 0);
        d.compiles(" a = ( 12 + b ) ^ ; ", 1, 0, 0, 0, 0, 0, 0, 0, 12, 2, 1, 4, 9, 11, 0, 0);
        d.compiles(" n < 0 ; n = A . B ; @ 1 ; @ 1 [ n ! ; ] ? a [ | ] ",
            13, 0, 0, 26, 0, 1, 12, 0, 28, 0, 14, 18, 0, 17, 27, 0, 29, 17, 0, 0, 24, 18, 0, 24, 0);
    }

    private static void whatStays() {
        Desk d = new Desk().ready(2, "n<0;>n;");
        d.due("give 0 4", 1).due("step 0", 1);
        d.tape("n=").due("compile", Desk.ARGUMENT).due("total 3", 6).due("code 0", 13);
        d.due("party 0 1", 1).due("party 0 11", 1).due("run 2000", 24).due("output 1 0", 4);
        d.due("compile", 1).due("total 3", 1).due("party 0 1", 0).due("party 0 0", 2).due("output 1 0", Desk.ELEMENT);
        d.due("code 1", -1).due("begin", 1).due("party 0 0", 2);
        d.tape(">a").due("compile", Desk.ARGUMENT).due("compile", 1);
        Desk four = new Desk();
        four.isRefused("n<3;", 4, 2).due("hall 4 0 1", 1).compiles("n<3;", 13, 0, 3, 0);
    }

    private static void longest() {
        StringBuilder text = new StringBuilder("a=1");
        for (int i = 0; i < 198; i++) {
            text.append("+1");
        }
        Desk d = new Desk();
        d.tape(text + ";").due("compile", 1992).due("code 1991", 0).due("begin", 1).due("run 2000", 398);
        d.due("clear 0 0", 199).due("clear 1 0", 199);
    }
}
